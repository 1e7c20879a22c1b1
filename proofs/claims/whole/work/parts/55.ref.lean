theorem fo_80b {x : Nat} : 80 * nI x = nI (80 * x) := by rw [show (80 : Int32) = nI 80 from rfl, pk_mul]
theorem dF_readCard_0 : decode cF_readCard 0 = .ok (.iconst 0, 1) := by decide +kernel
theorem dF_readCard_1 : decode cF_readCard 1 = .ok (.istore_n 1, 1) := by decide +kernel
theorem dF_readCard_2 : decode cF_readCard 2 = .ok (.iload_n 1, 1) := by decide +kernel
theorem dF_readCard_3 : decode cF_readCard 3 = .ok (.bipush 16, 2) := by decide +kernel
theorem dF_readCard_5 : decode cF_readCard 5 = .ok (.if_icmp .ge 55, 3) := by decide +kernel
theorem dF_readCard_8 : decode cF_readCard 8 = .ok (.iconst 0, 1) := by decide +kernel
theorem dF_readCard_9 : decode cF_readCard 9 = .ok (.istore_n 2, 1) := by decide +kernel
theorem dF_readCard_10 : decode cF_readCard 10 = .ok (.iconst 0, 1) := by decide +kernel
theorem dF_readCard_11 : decode cF_readCard 11 = .ok (.istore_n 3, 1) := by decide +kernel
theorem dF_readCard_12 : decode cF_readCard 12 = .ok (.iload_n 3, 1) := by decide +kernel
theorem dF_readCard_13 : decode cF_readCard 13 = .ok (.iconst 5, 1) := by decide +kernel
theorem dF_readCard_14 : decode cF_readCard 14 = .ok (.if_icmp .ge 29, 3) := by decide +kernel
theorem dF_readCard_17 : decode cF_readCard 17 = .ok (.bipush 64, 2) := by decide +kernel
theorem dF_readCard_19 : decode cF_readCard 19 = .ok (.iload_n 2, 1) := by decide +kernel
theorem dF_readCard_20 : decode cF_readCard 20 = .ok (.imul, 1) := by decide +kernel
theorem dF_readCard_21 : decode cF_readCard 21 = .ok (.aload_n 0, 1) := by decide +kernel
theorem dF_readCard_22 : decode cF_readCard 22 = .ok (.aload_n 0, 1) := by decide +kernel
theorem dF_readCard_23 : decode cF_readCard 23 = .ok (.getfield 37, 3) := by decide +kernel
theorem dF_readCard_26 : decode cF_readCard 26 = .ok (.iconst 5, 1) := by decide +kernel
theorem dF_readCard_27 : decode cF_readCard 27 = .ok (.iload_n 1, 1) := by decide +kernel
theorem dF_readCard_28 : decode cF_readCard 28 = .ok (.imul, 1) := by decide +kernel
theorem dF_readCard_29 : decode cF_readCard 29 = .ok (.iload_n 3, 1) := by decide +kernel
theorem dF_readCard_30 : decode cF_readCard 30 = .ok (.iadd, 1) := by decide +kernel
theorem dF_readCard_31 : decode cF_readCard 31 = .ok (.iaload, 1) := by decide +kernel
theorem dF_readCard_32 : decode cF_readCard 32 = .ok (.invokevirtual 91, 3) := by decide +kernel
theorem dF_readCard_35 : decode cF_readCard 35 = .ok (.iadd, 1) := by decide +kernel
theorem dF_readCard_36 : decode cF_readCard 36 = .ok (.istore_n 2, 1) := by decide +kernel
theorem dF_readCard_37 : decode cF_readCard 37 = .ok (.iinc 3 1, 3) := by decide +kernel
theorem dF_readCard_40 : decode cF_readCard 40 = .ok (.goto (-28), 3) := by decide +kernel
theorem dF_readCard_43 : decode cF_readCard 43 = .ok (.aload_n 0, 1) := by decide +kernel
theorem dF_readCard_44 : decode cF_readCard 44 = .ok (.getfield 34, 3) := by decide +kernel
theorem dF_readCard_47 : decode cF_readCard 47 = .ok (.sipush 600, 3) := by decide +kernel
theorem dF_readCard_50 : decode cF_readCard 50 = .ok (.iload_n 1, 1) := by decide +kernel
theorem dF_readCard_51 : decode cF_readCard 51 = .ok (.iadd, 1) := by decide +kernel
theorem dF_readCard_52 : decode cF_readCard 52 = .ok (.iload_n 2, 1) := by decide +kernel
theorem dF_readCard_53 : decode cF_readCard 53 = .ok (.iastore, 1) := by decide +kernel
theorem dF_readCard_54 : decode cF_readCard 54 = .ok (.iinc 1 1, 3) := by decide +kernel
theorem dF_readCard_57 : decode cF_readCard 57 = .ok (.goto (-55), 3) := by decide +kernel
theorem dF_readCard_60 : decode cF_readCard 60 = .ok (.aload_n 0, 1) := by decide +kernel
theorem dF_readCard_61 : decode cF_readCard 61 = .ok (.dup, 1) := by decide +kernel
theorem dF_readCard_62 : decode cF_readCard 62 = .ok (.getfield 80, 3) := by decide +kernel
theorem dF_readCard_65 : decode cF_readCard 65 = .ok (.iconst 1, 1) := by decide +kernel
theorem dF_readCard_66 : decode cF_readCard 66 = .ok (.isub, 1) := by decide +kernel
theorem dF_readCard_67 : decode cF_readCard 67 = .ok (.putfield 80, 3) := by decide +kernel
theorem dF_readCard_70 : decode cF_readCard 70 = .ok (.iconst 0, 1) := by decide +kernel
theorem dF_readCard_71 : decode cF_readCard 71 = .ok (.istore_n 1, 1) := by decide +kernel
theorem dF_readCard_72 : decode cF_readCard 72 = .ok (.iload_n 1, 1) := by decide +kernel
theorem dF_readCard_73 : decode cF_readCard 73 = .ok (.bipush 80, 2) := by decide +kernel
theorem dF_readCard_75 : decode cF_readCard 75 = .ok (.aload_n 0, 1) := by decide +kernel
theorem dF_readCard_76 : decode cF_readCard 76 = .ok (.getfield 80, 3) := by decide +kernel
theorem dF_readCard_79 : decode cF_readCard 79 = .ok (.imul, 1) := by decide +kernel
theorem dF_readCard_80 : decode cF_readCard 80 = .ok (.if_icmp .ge 24, 3) := by decide +kernel
theorem dF_readCard_83 : decode cF_readCard 83 = .ok (.aload_n 0, 1) := by decide +kernel
theorem dF_readCard_84 : decode cF_readCard 84 = .ok (.getfield 37, 3) := by decide +kernel
theorem dF_readCard_87 : decode cF_readCard 87 = .ok (.iload_n 1, 1) := by decide +kernel
theorem dF_readCard_88 : decode cF_readCard 88 = .ok (.aload_n 0, 1) := by decide +kernel
theorem dF_readCard_89 : decode cF_readCard 89 = .ok (.getfield 37, 3) := by decide +kernel
theorem dF_readCard_92 : decode cF_readCard 92 = .ok (.iload_n 1, 1) := by decide +kernel
theorem dF_readCard_93 : decode cF_readCard 93 = .ok (.bipush 80, 2) := by decide +kernel
theorem dF_readCard_95 : decode cF_readCard 95 = .ok (.iadd, 1) := by decide +kernel
theorem dF_readCard_96 : decode cF_readCard 96 = .ok (.iaload, 1) := by decide +kernel
theorem dF_readCard_97 : decode cF_readCard 97 = .ok (.iastore, 1) := by decide +kernel
theorem dF_readCard_98 : decode cF_readCard 98 = .ok (.iinc 1 1, 3) := by decide +kernel
theorem dF_readCard_101 : decode cF_readCard 101 = .ok (.goto (-29), 3) := by decide +kernel
theorem dF_readCard_104 : decode cF_readCard 104 = .ok (.return_, 1) := by decide +kernel
abbrev rmkF_read : Room := { frames := 2, cells := 0, slots := 0, locals := 46 }
set_option maxHeartbeats 4000000 in
set_option maxRecDepth 100000 in
theorem kF_read (l : Launch) (D : va_G) (E : ur_Ev) (h : ur_M) (q : Nat) (b1 : Nat) (b2 : Nat) (b3 : Nat) (b4 : Nat) (b5 : Nat) (b6 : Nat) (b7 : Nat) (b8 : Nat) (b9 : Nat) (b10 : Nat) (b11 : Nat) (b12 : Nat) (b13 : Nat) (b14 : Nat) (ti : Int64) (ops : Int32) (tsz : Int32) (cn : Nat) (g_brought : Nat → Int32) (g_cardBytes : Nat → Int32) (g_alphabet : Nat → Int32) (f0 : h q = some (.inr (7, [.ref b1, .ref b2, .ref b3, .long ti, .ref b4, .ref b5, .ref b6, .ref b7, .int ops, .ref b8, .int (nI cn), .ref b9, .ref b10, .ref b11, .ref b12, .ref b13, .int tsz, .ref b14]))) (f1 : h b8 = some (.inl (E.1 0, 1000, .inl g_brought))) (f2 : h b9 = some (.inl (E.1 0, 8000, .inl g_cardBytes))) (f3 : h b14 = some (.inl (E.1 0, 56, .inl g_alphabet))) (hc0 : 0 < cn) (hc1 : cn ≤ 100) : ur_Mv l yF_readCard wsF_readCard rmkF_read D vwCl (ur_v E) [.ref q] h (fun h2 => h2 = va_up (va_up (va_up h b8 (some (.inl (E.1 0, 1000, .inl (fo_rb g_brought g_alphabet g_cardBytes 16))))) q (some (.inr (7, [.ref b1, .ref b2, .ref b3, .long ti, .ref b4, .ref b5, .ref b6, .ref b7, .int ops, .ref b8, .int (nI (cn - 1)), .ref b9, .ref b10, .ref b11, .ref b12, .ref b13, .int tsz, .ref b14])))) b9 (some (.inl (E.1 0, 8000, .inl (fo_sh g_cardBytes (80 * (cn - 1))))))) 0 0 := by
  intro sz
  refine ur_of (cc := cF_readCard) (maxL := 4) (ret := none) (by decide) rfl (Nat.le_of_ble_eq_true rfl) ?_
  intro p e s m args below meth c ls Q hsz hx hb hml hr hlocks hnm hown hts hO hK hI hQ hl
  subst hsz
  have hV := hK.1
  have hts : ∀ w ∈ ur_G, w.before args s = true := fun w hw => hts w (List.mem_cons_of_mem _ hw)
  have hZ : ur_Z E (ur_A h s.heap.size) s s.heap := hO.1
  have hown : s.vm.findClass "UnitRoomModel" = some m.cls := hown
  have hl : lv_has ls 4 [(0, .ref q)] := hl
  refine lv_iconst (v := 0) hx hb dF_readCard_0 (by decide) ?_
  refine lv_istore_n (lv' := [(1, .int 0), (0, .ref q)]) hx hb dF_readCard_1 rfl hl (by decide) rfl (fun ls hl => ?_)
  have lpn1 : ∀ (n1 : Nat) (j : Nat) (hn1 : ur_M) (H : Heap) (locs : List Loc) (ls : Array Slot), 16 - j < n1 → (j ≤ 16) → hn1 = va_up h b8 (some (.inl (E.1 0, 1000, .inl (fo_rb g_brought g_alphabet g_cardBytes j)))) → ur_I D vwCl (ur_A h s.heap.size) s.heap hn1 H locs → lv_has ls 4 [(0, .ref q), (1, .int (nI j))] → W p l e rmkF_read s m args below meth c H locs 0 0 Q (F0 m 2 ls []) := by
    intro n1
    induction n1 with
    | zero => intro j hn1 H locs ls hnn1; exact absurd hnn1 (Nat.not_lt_zero _)
    | succ n1 ihn1 =>
      intro j hn1 H locs ls hnn1 hj ehn1 hI hl
      have fq2 : hn1 q = some (.inr (7, [.ref b1, .ref b2, .ref b3, .long ti, .ref b4, .ref b5, .ref b6, .ref b7, .int ops, .ref b8, .int (nI cn), .ref b9, .ref b10, .ref b11, .ref b12, .ref b13, .int tsz, .ref b14])) := by rw [ehn1]; exact (va_up_ne _ _ (ur_ne f0 f1 (by intro z; simp at z))).trans f0
      have fq3 : hn1 b8 = some (.inl (E.1 0, 1000, .inl (fo_rb g_brought g_alphabet g_cardBytes j))) := by rw [ehn1]; exact va_up_self _ _ _
      have fq4 : hn1 b9 = some (.inl (E.1 0, 8000, .inl g_cardBytes)) := by rw [ehn1]; exact (va_up_ne _ _ (ur_ne f2 f1 (by intro z; simp at z))).trans f2
      have fq5 : hn1 b14 = some (.inl (E.1 0, 56, .inl g_alphabet)) := by rw [ehn1]; exact (va_up_ne _ _ (ur_ne f3 f1 (by intro z; simp at z))).trans f3
      refine lv_iload_n hx hb dF_readCard_2 rfl (lv_at hl 1 rfl) ?_
      refine lv_bipush (v := 16) hx hb dF_readCard_3 (by decide) ?_
      refine lv_icmp_ge (tgt := 60) hx hb dF_readCard_5 (by decide) (fun c6 => ?_) (fun c6 => ?_)
      · have he9 : j = 16 := Nat.le_antisymm hj (Nat.not_lt.mp (fun z9 => nI_ge (b := 16) z9 (by decide) c6))
        refine lv_aload_n hx hb dF_readCard_60 rfl (lv_at hl 0 rfl) ?_
        refine lv_dup hx hb dF_readCard_61 rfl ?_
        refine va_get (D := D) (ci := 7) (v := .int (nI cn)) (C := "UnitRoomModel") (T := TF) (N := 18) hx hb hts inF hown hV (ur_one hI.1 fq2) 0 rfl rfl 10 (by decide) (hts _ mw587) (fun _ h9 => h9) rfl dF_readCard_62 ?_
        refine lv_iconst (v := 1) hx hb dF_readCard_65 (by decide) ?_
        refine lv_isub hx hb dF_readCard_66 ?_
        rw [show nI cn - 1 = nI (cn - 1) by rw [show (1 : Int32) = nI 1 from rfl, pk_sub (by omega)]]
        refine ur_put (D := D) (ci := 7) (v := .int (nI (cn - 1))) (ty := .int) (C := "UnitRoomModel") (T := TF) (N := 18) hx hb hts inF tyF tyF_ok nmF hown hV hI fq2 rfl 10 (by decide) (hts _ mw587) (fun _ h9 => h9) rfl (by decide +kernel) rfl rfl (Nat.le_of_ble_eq_true rfl) dF_readCard_67 (fun H locs hI => ?_)
        obtain ⟨h7, eh7⟩ : ∃ z : ur_M, z = va_up hn1 q (some (.inr (7, [.ref b1, .ref b2, .ref b3, .long ti, .ref b4, .ref b5, .ref b6, .ref b7, .int ops, .ref b8, .int (nI (cn - 1)), .ref b9, .ref b10, .ref b11, .ref b12, .ref b13, .int tsz, .ref b14]))) := ⟨_, rfl⟩
        replace hI : ur_I D vwCl (ur_A h s.heap.size) s.heap h7 H locs := by rw [eh7]; exact hI
        have fq8 : h7 q = some (.inr (7, [.ref b1, .ref b2, .ref b3, .long ti, .ref b4, .ref b5, .ref b6, .ref b7, .int ops, .ref b8, .int (nI (cn - 1)), .ref b9, .ref b10, .ref b11, .ref b12, .ref b13, .int tsz, .ref b14])) := by rw [eh7]; exact (va_up_self _ _ _)
        have fq9 : h7 b8 = some (.inl (E.1 0, 1000, .inl (fo_rb g_brought g_alphabet g_cardBytes j))) := by rw [eh7]; exact ((va_up_ne _ _ (ur_ne fq3 fq2 (by intro z; simp at z))).trans fq3)
        have fq10 : h7 b9 = some (.inl (E.1 0, 8000, .inl g_cardBytes)) := by rw [eh7]; exact ((va_up_ne _ _ (ur_ne fq4 fq2 (by intro z; simp at z))).trans fq4)
        have fq11 : h7 b14 = some (.inl (E.1 0, 56, .inl g_alphabet)) := by rw [eh7]; exact ((va_up_ne _ _ (ur_ne fq5 fq2 (by intro z; simp at z))).trans fq5)
        refine lv_iconst (v := 0) hx hb dF_readCard_70 (by decide) ?_
        refine lv_istore_n (lv' := [(1, .int 0), (0, .ref q)]) hx hb dF_readCard_71 rfl hl (by decide) rfl (fun ls hl => ?_)
        have hh9 : h7 = va_up (va_up h b8 (some (.inl (E.1 0, 1000, .inl (fo_rb g_brought g_alphabet g_cardBytes 16))))) q (some (.inr (7, [.ref b1, .ref b2, .ref b3, .long ti, .ref b4, .ref b5, .ref b6, .ref b7, .int ops, .ref b8, .int (nI (cn - 1)), .ref b9, .ref b10, .ref b11, .ref b12, .ref b13, .int tsz, .ref b14]))) := by rw [eh7, ehn1, he9]
        have g1 := fq10
        rw [hh9] at g1
        have n1 : b9 ≠ b8 := ur_ne f2 f1 (by intro z; simp at z)
        have n2 : q ≠ b9 := ur_ne f0 f2 (by intro z; simp at z)
        have lpn12 : ∀ (n12 : Nat) (k : Nat) (hn12 : ur_M) (H : Heap) (locs : List Loc) (ls : Array Slot), 80 * (cn - 1) - k < n12 → (k ≤ 80 * (cn - 1)) → hn12 = va_up (va_up (va_up h b8 (some (.inl (E.1 0, 1000, .inl (fo_rb g_brought g_alphabet g_cardBytes 16))))) q (some (.inr (7, [.ref b1, .ref b2, .ref b3, .long ti, .ref b4, .ref b5, .ref b6, .ref b7, .int ops, .ref b8, .int (nI (cn - 1)), .ref b9, .ref b10, .ref b11, .ref b12, .ref b13, .int tsz, .ref b14])))) b9 (some (.inl (E.1 0, 8000, .inl (fo_sh g_cardBytes k)))) → ur_I D vwCl (ur_A h s.heap.size) s.heap hn12 H locs → lv_has ls 4 [(0, .ref q), (1, .int (nI k))] → W p l e rmkF_read s m args below meth c H locs 0 0 Q (F0 m 72 ls []) := by
          intro n12
          induction n12 with
          | zero => intro k hn12 H locs ls hnn12; exact absurd hnn12 (Nat.not_lt_zero _)
          | succ n12 ihn12 =>
            intro k hn12 H locs ls hnn12 hk ehn12 hI hl
            have fq13 : hn12 q = some (.inr (7, [.ref b1, .ref b2, .ref b3, .long ti, .ref b4, .ref b5, .ref b6, .ref b7, .int ops, .ref b8, .int (nI (cn - 1)), .ref b9, .ref b10, .ref b11, .ref b12, .ref b13, .int tsz, .ref b14])) := by rw [ehn12]; exact (va_up_ne _ _ n2).trans (va_up_self _ _ _)
            have fq14 : hn12 b9 = some (.inl (E.1 0, 8000, .inl (fo_sh g_cardBytes k))) := by rw [ehn12]; exact va_up_self _ _ _
            refine lv_iload_n hx hb dF_readCard_72 rfl (lv_at hl 1 rfl) ?_
            refine lv_bipush (v := 80) hx hb dF_readCard_73 (by decide) ?_
            refine lv_aload_n hx hb dF_readCard_75 rfl (lv_at hl 0 rfl) ?_
            refine va_get (D := D) (ci := 7) (v := .int (nI (cn - 1))) (C := "UnitRoomModel") (T := TF) (N := 18) hx hb hts inF hown hV (ur_one hI.1 fq13) 0 rfl rfl 10 (by decide) (hts _ mw587) (fun _ h9 => h9) rfl dF_readCard_76 ?_
            refine lv_imul hx hb dF_readCard_79 ?_
            rw [fo_80b]
            refine lv_icmp_ge (tgt := 104) hx hb dF_readCard_80 (by decide) (fun c15 => ?_) (fun c15 => ?_)
            · have he8 : k = 80 * (cn - 1) := Nat.le_antisymm hk (Nat.not_lt.mp (fun z9 => nI_ge z9 (by omega) c15))
              exact ur_rv hx hb hr hlocks hI hQ (by rw [ehn12, he8]) dF_readCard_104
            · have hlt : k < 80 * (cn - 1) := Nat.not_le.mp (fun z9 => c15 (nI_le z9 (by omega)))
              refine lv_aload_n hx hb dF_readCard_83 rfl (lv_at hl 0 rfl) ?_
              refine va_get (D := D) (ci := 7) (v := .ref b9) (C := "UnitRoomModel") (T := TF) (N := 18) hx hb hts inF hown hV (ur_one hI.1 fq13) 0 rfl rfl 11 (by decide) (hts _ mw588) (fun _ h9 => h9) rfl dF_readCard_84 ?_
              refine lv_iload_n hx hb dF_readCard_87 rfl (lv_at hl 1 rfl) ?_
              refine lv_aload_n hx hb dF_readCard_88 rfl (lv_at hl 0 rfl) ?_
              refine va_get (D := D) (ci := 7) (v := .ref b9) (C := "UnitRoomModel") (T := TF) (N := 18) hx hb hts inF hown hV (ur_one hI.1 fq13) 0 rfl rfl 11 (by decide) (hts _ mw588) (fun _ h9 => h9) rfl dF_readCard_89 ?_
              refine lv_iload_n hx hb dF_readCard_92 rfl (lv_at hl 1 rfl) ?_
              refine lv_bipush (v := 80) hx hb dF_readCard_93 (by decide) ?_
              refine lv_iadd hx hb dF_readCard_95 ?_
              refine va_iald hx hb hV (ur_one hI.1 fq14) 0 0 rfl rfl (by rw [show (80 : Int32) = nI 80 from rfl, nI_add]; exact vp_in_nI (by omega) (by decide)) dF_readCard_96 ?_
              refine ur_iast hx hb hV hI 0 fq14 rfl (vp_in_nI (by omega) (by decide)) dF_readCard_97 (fun H locs hI => ?_)
              obtain ⟨h16, eh16⟩ : ∃ z : ur_M, z = va_up hn12 b9 (some (.inl (E.1 0, 8000, .inl (upd (fo_sh g_cardBytes k) (Int32.toNatClampNeg (nI k)) ((fo_sh g_cardBytes k) (Int32.toNatClampNeg ((nI k) + 80))))))) := ⟨_, rfl⟩
              replace hI : ur_I D vwCl (ur_A h s.heap.size) s.heap h16 H locs := by rw [eh16]; exact hI
              have fq17 : h16 q = some (.inr (7, [.ref b1, .ref b2, .ref b3, .long ti, .ref b4, .ref b5, .ref b6, .ref b7, .int ops, .ref b8, .int (nI (cn - 1)), .ref b9, .ref b10, .ref b11, .ref b12, .ref b13, .int tsz, .ref b14])) := by rw [eh16]; exact ((va_up_ne _ _ (ur_ne fq13 fq14 (by intro z; simp at z))).trans fq13)
              have fq18 : h16 b9 = some (.inl (E.1 0, 8000, .inl (upd (fo_sh g_cardBytes k) (Int32.toNatClampNeg (nI k)) ((fo_sh g_cardBytes k) (Int32.toNatClampNeg ((nI k) + 80)))))) := by rw [eh16]; exact (va_up_self _ _ _)
              refine lv_iinc (v := ((nI k) + 1)) (lv' := [(1, .int ((nI k) + 1)), (0, .ref q)]) hx hb dF_readCard_98 hl (k := 1) rfl rfl (by decide) rfl (fun ls hl => ?_)
              refine lv_goto (tgt := 72) hx hb dF_readCard_101 (by decide) ?_
              rw [nI_1] at hl
              exact ihn12 (k + 1) h16 H locs ls (by omega) hlt (by rw [eh16, ehn12, bx_uu, nI_clamp (show k < 2 ^ 31 by omega), show nI k + 80 = nI (k + 80) from (by rw [show (80 : Int32) = nI 80 from rfl, nI_add]), nI_clamp (show k + 80 < 2 ^ 31 by omega), fo_sh_succ]) hI (lv_sub hl [1, 0] rfl)
        exact lpn12 _ 0 h7 _ _ ls (Nat.lt_succ_self _) (Nat.zero_le _) ((by rw [fo_sh_0, ur_same g1]; exact hh9)) hI (lv_sub hl [1, 0] rfl)
      · have hlt : j < 16 := Nat.not_le.mp (fun z9 => c6 (nI_le z9 (by omega)))
        refine lv_iconst (v := 0) hx hb dF_readCard_8 (by decide) ?_
        refine lv_istore_n (lv' := [(2, .int 0), (0, .ref q), (1, .int (nI j))]) hx hb dF_readCard_9 rfl hl (by decide) rfl (fun ls hl => ?_)
        refine lv_iconst (v := 0) hx hb dF_readCard_10 (by decide) ?_
        refine lv_istore_n (lv' := [(3, .int 0), (2, .int 0), (0, .ref q), (1, .int (nI j))]) hx hb dF_readCard_11 rfl hl (by decide) rfl (fun ls hl => ?_)
        refine lv_iload_n hx hb dF_readCard_12 rfl (lv_at hl 0 rfl) ?_
        refine lv_iconst (v := 5) hx hb dF_readCard_13 (by decide) ?_
        refine lv_icmp_ge (tgt := 43) hx hb dF_readCard_14 (by decide) (fun c19 => absurd c19 (by decide)) (fun c19 => ?_)
        refine lv_bipush (v := 64) hx hb dF_readCard_17 (by decide) ?_
        refine lv_iload_n hx hb dF_readCard_19 rfl (lv_at hl 1 rfl) ?_
        refine lv_imul hx hb dF_readCard_20 ?_
        refine lv_aload_n hx hb dF_readCard_21 rfl (lv_at hl 2 rfl) ?_
        refine lv_aload_n hx hb dF_readCard_22 rfl (lv_at hl 2 rfl) ?_
        refine va_get (D := D) (ci := 7) (v := .ref b9) (C := "UnitRoomModel") (T := TF) (N := 18) hx hb hts inF hown hV (ur_one hI.1 fq2) 0 rfl rfl 11 (by decide) (hts _ mw588) (fun _ h9 => h9) rfl dF_readCard_23 ?_
        refine lv_iconst (v := 5) hx hb dF_readCard_26 (by decide) ?_
        refine lv_iload_n hx hb dF_readCard_27 rfl (lv_at hl 3 rfl) ?_
        refine lv_imul hx hb dF_readCard_28 ?_
        refine lv_iload_n hx hb dF_readCard_29 rfl (lv_at hl 0 rfl) ?_
        refine lv_iadd hx hb dF_readCard_30 ?_
        refine va_iald hx hb hV (ur_one hI.1 fq4) 0 0 rfl rfl (by rw [show (5 * nI j + 0 : Int32) = nI (5 * j + 0) from fo_5 (c := 0)]; exact vp_in_nI (by omega) (by decide)) dF_readCard_31 ?_
        refine ur_xi (va_runV (As := [.int (g_cardBytes (Int32.toNatClampNeg ((5 * (nI j)) + 0)))]) (rest := [.int (64 * 0)]) ⟨hx, hb, hml, hown, hts⟩ (kF_code l D E hn1 q b1 b2 b3 b4 b5 b6 b7 b8 b9 b10 b11 b12 b13 b14 ti ops (nI cn) tsz g_alphabet (g_cardBytes (Int32.toNatClampNeg ((5 * (nI j)) + 0))) fq2 fq5 H.size) (cwV 1 hts (ur_gV mw710 mw712 ms14 mw11 mw713) rfl rfl rfl (by decide +kernel) ⟨(Nat.le_of_ble_eq_true rfl), (Nat.le_of_ble_eq_true rfl)⟩) ⟨ur_blind, va_recv hV (ur_one hI.1 fq2) (ci := 7) (q0 := 0) rfl rfl, ur_pre hI hO hK (fun _ _ q => q)⟩ rfl rfl hl.1 rfl (lv_room (Nat.le_of_ble_eq_true rfl)) dF_readCard_32 ⟨Nat.le_of_ble_eq_true rfl, Nat.le_of_ble_eq_true rfl⟩) hI (fun r20 h20 H locs p20 hI => ?_)
        obtain ⟨er20, eh20⟩ := p20
        replace eh20 := eh20.symm; subst eh20
        replace er20 := er20.symm; subst er20
        refine lv_iadd hx hb dF_readCard_35 ?_
        refine lv_istore_n (lv' := [(2, .int ((64 * 0) + (fo_cd g_alphabet (fo_gr (g_cardBytes (Int32.toNatClampNeg ((5 * (nI j)) + 0)))) 56))), (3, .int 0), (0, .ref q), (1, .int (nI j))]) hx hb dF_readCard_36 rfl hl (by decide) rfl (fun ls hl => ?_)
        refine lv_iinc (v := 1) (lv' := [(3, .int 1), (2, .int ((64 * 0) + (fo_cd g_alphabet (fo_gr (g_cardBytes (Int32.toNatClampNeg ((5 * (nI j)) + 0)))) 56))), (0, .ref q), (1, .int (nI j))]) hx hb dF_readCard_37 hl (k := 1) rfl (by decide) (by decide) rfl (fun ls hl => ?_)
        refine lv_goto (tgt := 12) hx hb dF_readCard_40 (by decide) ?_
        refine lv_iload_n hx hb dF_readCard_12 rfl (lv_at hl 0 rfl) ?_
        refine lv_iconst (v := 5) hx hb dF_readCard_13 (by decide) ?_
        refine lv_icmp_ge (tgt := 43) hx hb dF_readCard_14 (by decide) (fun c21 => absurd c21 (by decide)) (fun c21 => ?_)
        refine lv_bipush (v := 64) hx hb dF_readCard_17 (by decide) ?_
        refine lv_iload_n hx hb dF_readCard_19 rfl (lv_at hl 1 rfl) ?_
        refine lv_imul hx hb dF_readCard_20 ?_
        refine lv_aload_n hx hb dF_readCard_21 rfl (lv_at hl 2 rfl) ?_
        refine lv_aload_n hx hb dF_readCard_22 rfl (lv_at hl 2 rfl) ?_
        refine va_get (D := D) (ci := 7) (v := .ref b9) (C := "UnitRoomModel") (T := TF) (N := 18) hx hb hts inF hown hV (ur_one hI.1 fq2) 0 rfl rfl 11 (by decide) (hts _ mw588) (fun _ h9 => h9) rfl dF_readCard_23 ?_
        refine lv_iconst (v := 5) hx hb dF_readCard_26 (by decide) ?_
        refine lv_iload_n hx hb dF_readCard_27 rfl (lv_at hl 3 rfl) ?_
        refine lv_imul hx hb dF_readCard_28 ?_
        refine lv_iload_n hx hb dF_readCard_29 rfl (lv_at hl 0 rfl) ?_
        refine lv_iadd hx hb dF_readCard_30 ?_
        refine va_iald hx hb hV (ur_one hI.1 fq4) 0 0 rfl rfl (by rw [show (5 * nI j + 1 : Int32) = nI (5 * j + 1) from fo_5 (c := 1)]; exact vp_in_nI (by omega) (by decide)) dF_readCard_31 ?_
        refine ur_xi (va_runV (As := [.int (g_cardBytes (Int32.toNatClampNeg ((5 * (nI j)) + 1)))]) (rest := [.int (64 * ((64 * 0) + (fo_cd g_alphabet (fo_gr (g_cardBytes (Int32.toNatClampNeg ((5 * (nI j)) + 0)))) 56)))]) ⟨hx, hb, hml, hown, hts⟩ (kF_code l D E hn1 q b1 b2 b3 b4 b5 b6 b7 b8 b9 b10 b11 b12 b13 b14 ti ops (nI cn) tsz g_alphabet (g_cardBytes (Int32.toNatClampNeg ((5 * (nI j)) + 1))) fq2 fq5 H.size) (cwV 1 hts (ur_gV mw710 mw712 ms14 mw11 mw713) rfl rfl rfl (by decide +kernel) ⟨(Nat.le_of_ble_eq_true rfl), (Nat.le_of_ble_eq_true rfl)⟩) ⟨ur_blind, va_recv hV (ur_one hI.1 fq2) (ci := 7) (q0 := 0) rfl rfl, ur_pre hI hO hK (fun _ _ q => q)⟩ rfl rfl hl.1 rfl (lv_room (Nat.le_of_ble_eq_true rfl)) dF_readCard_32 ⟨Nat.le_of_ble_eq_true rfl, Nat.le_of_ble_eq_true rfl⟩) hI (fun r22 h22 H locs p22 hI => ?_)
        obtain ⟨er22, eh22⟩ := p22
        replace eh22 := eh22.symm; subst eh22
        replace er22 := er22.symm; subst er22
        refine lv_iadd hx hb dF_readCard_35 ?_
        refine lv_istore_n (lv' := [(2, .int ((64 * ((64 * 0) + (fo_cd g_alphabet (fo_gr (g_cardBytes (Int32.toNatClampNeg ((5 * (nI j)) + 0)))) 56))) + (fo_cd g_alphabet (fo_gr (g_cardBytes (Int32.toNatClampNeg ((5 * (nI j)) + 1)))) 56))), (3, .int 1), (0, .ref q), (1, .int (nI j))]) hx hb dF_readCard_36 rfl hl (by decide) rfl (fun ls hl => ?_)
        refine lv_iinc (v := 2) (lv' := [(3, .int 2), (2, .int ((64 * ((64 * 0) + (fo_cd g_alphabet (fo_gr (g_cardBytes (Int32.toNatClampNeg ((5 * (nI j)) + 0)))) 56))) + (fo_cd g_alphabet (fo_gr (g_cardBytes (Int32.toNatClampNeg ((5 * (nI j)) + 1)))) 56))), (0, .ref q), (1, .int (nI j))]) hx hb dF_readCard_37 hl (k := 1) rfl (by decide) (by decide) rfl (fun ls hl => ?_)
        refine lv_goto (tgt := 12) hx hb dF_readCard_40 (by decide) ?_
        refine lv_iload_n hx hb dF_readCard_12 rfl (lv_at hl 0 rfl) ?_
        refine lv_iconst (v := 5) hx hb dF_readCard_13 (by decide) ?_
        refine lv_icmp_ge (tgt := 43) hx hb dF_readCard_14 (by decide) (fun c23 => absurd c23 (by decide)) (fun c23 => ?_)
        refine lv_bipush (v := 64) hx hb dF_readCard_17 (by decide) ?_
        refine lv_iload_n hx hb dF_readCard_19 rfl (lv_at hl 1 rfl) ?_
        refine lv_imul hx hb dF_readCard_20 ?_
        refine lv_aload_n hx hb dF_readCard_21 rfl (lv_at hl 2 rfl) ?_
        refine lv_aload_n hx hb dF_readCard_22 rfl (lv_at hl 2 rfl) ?_
        refine va_get (D := D) (ci := 7) (v := .ref b9) (C := "UnitRoomModel") (T := TF) (N := 18) hx hb hts inF hown hV (ur_one hI.1 fq2) 0 rfl rfl 11 (by decide) (hts _ mw588) (fun _ h9 => h9) rfl dF_readCard_23 ?_
        refine lv_iconst (v := 5) hx hb dF_readCard_26 (by decide) ?_
        refine lv_iload_n hx hb dF_readCard_27 rfl (lv_at hl 3 rfl) ?_
        refine lv_imul hx hb dF_readCard_28 ?_
        refine lv_iload_n hx hb dF_readCard_29 rfl (lv_at hl 0 rfl) ?_
        refine lv_iadd hx hb dF_readCard_30 ?_
        refine va_iald hx hb hV (ur_one hI.1 fq4) 0 0 rfl rfl (by rw [show (5 * nI j + 2 : Int32) = nI (5 * j + 2) from fo_5 (c := 2)]; exact vp_in_nI (by omega) (by decide)) dF_readCard_31 ?_
        refine ur_xi (va_runV (As := [.int (g_cardBytes (Int32.toNatClampNeg ((5 * (nI j)) + 2)))]) (rest := [.int (64 * ((64 * ((64 * 0) + (fo_cd g_alphabet (fo_gr (g_cardBytes (Int32.toNatClampNeg ((5 * (nI j)) + 0)))) 56))) + (fo_cd g_alphabet (fo_gr (g_cardBytes (Int32.toNatClampNeg ((5 * (nI j)) + 1)))) 56)))]) ⟨hx, hb, hml, hown, hts⟩ (kF_code l D E hn1 q b1 b2 b3 b4 b5 b6 b7 b8 b9 b10 b11 b12 b13 b14 ti ops (nI cn) tsz g_alphabet (g_cardBytes (Int32.toNatClampNeg ((5 * (nI j)) + 2))) fq2 fq5 H.size) (cwV 1 hts (ur_gV mw710 mw712 ms14 mw11 mw713) rfl rfl rfl (by decide +kernel) ⟨(Nat.le_of_ble_eq_true rfl), (Nat.le_of_ble_eq_true rfl)⟩) ⟨ur_blind, va_recv hV (ur_one hI.1 fq2) (ci := 7) (q0 := 0) rfl rfl, ur_pre hI hO hK (fun _ _ q => q)⟩ rfl rfl hl.1 rfl (lv_room (Nat.le_of_ble_eq_true rfl)) dF_readCard_32 ⟨Nat.le_of_ble_eq_true rfl, Nat.le_of_ble_eq_true rfl⟩) hI (fun r24 h24 H locs p24 hI => ?_)
        obtain ⟨er24, eh24⟩ := p24
        replace eh24 := eh24.symm; subst eh24
        replace er24 := er24.symm; subst er24
        refine lv_iadd hx hb dF_readCard_35 ?_
        refine lv_istore_n (lv' := [(2, .int ((64 * ((64 * ((64 * 0) + (fo_cd g_alphabet (fo_gr (g_cardBytes (Int32.toNatClampNeg ((5 * (nI j)) + 0)))) 56))) + (fo_cd g_alphabet (fo_gr (g_cardBytes (Int32.toNatClampNeg ((5 * (nI j)) + 1)))) 56))) + (fo_cd g_alphabet (fo_gr (g_cardBytes (Int32.toNatClampNeg ((5 * (nI j)) + 2)))) 56))), (3, .int 2), (0, .ref q), (1, .int (nI j))]) hx hb dF_readCard_36 rfl hl (by decide) rfl (fun ls hl => ?_)
        refine lv_iinc (v := 3) (lv' := [(3, .int 3), (2, .int ((64 * ((64 * ((64 * 0) + (fo_cd g_alphabet (fo_gr (g_cardBytes (Int32.toNatClampNeg ((5 * (nI j)) + 0)))) 56))) + (fo_cd g_alphabet (fo_gr (g_cardBytes (Int32.toNatClampNeg ((5 * (nI j)) + 1)))) 56))) + (fo_cd g_alphabet (fo_gr (g_cardBytes (Int32.toNatClampNeg ((5 * (nI j)) + 2)))) 56))), (0, .ref q), (1, .int (nI j))]) hx hb dF_readCard_37 hl (k := 1) rfl (by decide) (by decide) rfl (fun ls hl => ?_)
        refine lv_goto (tgt := 12) hx hb dF_readCard_40 (by decide) ?_
        refine lv_iload_n hx hb dF_readCard_12 rfl (lv_at hl 0 rfl) ?_
        refine lv_iconst (v := 5) hx hb dF_readCard_13 (by decide) ?_
        refine lv_icmp_ge (tgt := 43) hx hb dF_readCard_14 (by decide) (fun c25 => absurd c25 (by decide)) (fun c25 => ?_)
        refine lv_bipush (v := 64) hx hb dF_readCard_17 (by decide) ?_
        refine lv_iload_n hx hb dF_readCard_19 rfl (lv_at hl 1 rfl) ?_
        refine lv_imul hx hb dF_readCard_20 ?_
        refine lv_aload_n hx hb dF_readCard_21 rfl (lv_at hl 2 rfl) ?_
        refine lv_aload_n hx hb dF_readCard_22 rfl (lv_at hl 2 rfl) ?_
        refine va_get (D := D) (ci := 7) (v := .ref b9) (C := "UnitRoomModel") (T := TF) (N := 18) hx hb hts inF hown hV (ur_one hI.1 fq2) 0 rfl rfl 11 (by decide) (hts _ mw588) (fun _ h9 => h9) rfl dF_readCard_23 ?_
        refine lv_iconst (v := 5) hx hb dF_readCard_26 (by decide) ?_
        refine lv_iload_n hx hb dF_readCard_27 rfl (lv_at hl 3 rfl) ?_
        refine lv_imul hx hb dF_readCard_28 ?_
        refine lv_iload_n hx hb dF_readCard_29 rfl (lv_at hl 0 rfl) ?_
        refine lv_iadd hx hb dF_readCard_30 ?_
        refine va_iald hx hb hV (ur_one hI.1 fq4) 0 0 rfl rfl (by rw [show (5 * nI j + 3 : Int32) = nI (5 * j + 3) from fo_5 (c := 3)]; exact vp_in_nI (by omega) (by decide)) dF_readCard_31 ?_
        refine ur_xi (va_runV (As := [.int (g_cardBytes (Int32.toNatClampNeg ((5 * (nI j)) + 3)))]) (rest := [.int (64 * ((64 * ((64 * ((64 * 0) + (fo_cd g_alphabet (fo_gr (g_cardBytes (Int32.toNatClampNeg ((5 * (nI j)) + 0)))) 56))) + (fo_cd g_alphabet (fo_gr (g_cardBytes (Int32.toNatClampNeg ((5 * (nI j)) + 1)))) 56))) + (fo_cd g_alphabet (fo_gr (g_cardBytes (Int32.toNatClampNeg ((5 * (nI j)) + 2)))) 56)))]) ⟨hx, hb, hml, hown, hts⟩ (kF_code l D E hn1 q b1 b2 b3 b4 b5 b6 b7 b8 b9 b10 b11 b12 b13 b14 ti ops (nI cn) tsz g_alphabet (g_cardBytes (Int32.toNatClampNeg ((5 * (nI j)) + 3))) fq2 fq5 H.size) (cwV 1 hts (ur_gV mw710 mw712 ms14 mw11 mw713) rfl rfl rfl (by decide +kernel) ⟨(Nat.le_of_ble_eq_true rfl), (Nat.le_of_ble_eq_true rfl)⟩) ⟨ur_blind, va_recv hV (ur_one hI.1 fq2) (ci := 7) (q0 := 0) rfl rfl, ur_pre hI hO hK (fun _ _ q => q)⟩ rfl rfl hl.1 rfl (lv_room (Nat.le_of_ble_eq_true rfl)) dF_readCard_32 ⟨Nat.le_of_ble_eq_true rfl, Nat.le_of_ble_eq_true rfl⟩) hI (fun r26 h26 H locs p26 hI => ?_)
        obtain ⟨er26, eh26⟩ := p26
        replace eh26 := eh26.symm; subst eh26
        replace er26 := er26.symm; subst er26
        refine lv_iadd hx hb dF_readCard_35 ?_
        refine lv_istore_n (lv' := [(2, .int ((64 * ((64 * ((64 * ((64 * 0) + (fo_cd g_alphabet (fo_gr (g_cardBytes (Int32.toNatClampNeg ((5 * (nI j)) + 0)))) 56))) + (fo_cd g_alphabet (fo_gr (g_cardBytes (Int32.toNatClampNeg ((5 * (nI j)) + 1)))) 56))) + (fo_cd g_alphabet (fo_gr (g_cardBytes (Int32.toNatClampNeg ((5 * (nI j)) + 2)))) 56))) + (fo_cd g_alphabet (fo_gr (g_cardBytes (Int32.toNatClampNeg ((5 * (nI j)) + 3)))) 56))), (3, .int 3), (0, .ref q), (1, .int (nI j))]) hx hb dF_readCard_36 rfl hl (by decide) rfl (fun ls hl => ?_)
        refine lv_iinc (v := 4) (lv' := [(3, .int 4), (2, .int ((64 * ((64 * ((64 * ((64 * 0) + (fo_cd g_alphabet (fo_gr (g_cardBytes (Int32.toNatClampNeg ((5 * (nI j)) + 0)))) 56))) + (fo_cd g_alphabet (fo_gr (g_cardBytes (Int32.toNatClampNeg ((5 * (nI j)) + 1)))) 56))) + (fo_cd g_alphabet (fo_gr (g_cardBytes (Int32.toNatClampNeg ((5 * (nI j)) + 2)))) 56))) + (fo_cd g_alphabet (fo_gr (g_cardBytes (Int32.toNatClampNeg ((5 * (nI j)) + 3)))) 56))), (0, .ref q), (1, .int (nI j))]) hx hb dF_readCard_37 hl (k := 1) rfl (by decide) (by decide) rfl (fun ls hl => ?_)
        refine lv_goto (tgt := 12) hx hb dF_readCard_40 (by decide) ?_
        refine lv_iload_n hx hb dF_readCard_12 rfl (lv_at hl 0 rfl) ?_
        refine lv_iconst (v := 5) hx hb dF_readCard_13 (by decide) ?_
        refine lv_icmp_ge (tgt := 43) hx hb dF_readCard_14 (by decide) (fun c27 => absurd c27 (by decide)) (fun c27 => ?_)
        refine lv_bipush (v := 64) hx hb dF_readCard_17 (by decide) ?_
        refine lv_iload_n hx hb dF_readCard_19 rfl (lv_at hl 1 rfl) ?_
        refine lv_imul hx hb dF_readCard_20 ?_
        refine lv_aload_n hx hb dF_readCard_21 rfl (lv_at hl 2 rfl) ?_
        refine lv_aload_n hx hb dF_readCard_22 rfl (lv_at hl 2 rfl) ?_
        refine va_get (D := D) (ci := 7) (v := .ref b9) (C := "UnitRoomModel") (T := TF) (N := 18) hx hb hts inF hown hV (ur_one hI.1 fq2) 0 rfl rfl 11 (by decide) (hts _ mw588) (fun _ h9 => h9) rfl dF_readCard_23 ?_
        refine lv_iconst (v := 5) hx hb dF_readCard_26 (by decide) ?_
        refine lv_iload_n hx hb dF_readCard_27 rfl (lv_at hl 3 rfl) ?_
        refine lv_imul hx hb dF_readCard_28 ?_
        refine lv_iload_n hx hb dF_readCard_29 rfl (lv_at hl 0 rfl) ?_
        refine lv_iadd hx hb dF_readCard_30 ?_
        refine va_iald hx hb hV (ur_one hI.1 fq4) 0 0 rfl rfl (by rw [show (5 * nI j + 4 : Int32) = nI (5 * j + 4) from fo_5 (c := 4)]; exact vp_in_nI (by omega) (by decide)) dF_readCard_31 ?_
        refine ur_xi (va_runV (As := [.int (g_cardBytes (Int32.toNatClampNeg ((5 * (nI j)) + 4)))]) (rest := [.int (64 * ((64 * ((64 * ((64 * ((64 * 0) + (fo_cd g_alphabet (fo_gr (g_cardBytes (Int32.toNatClampNeg ((5 * (nI j)) + 0)))) 56))) + (fo_cd g_alphabet (fo_gr (g_cardBytes (Int32.toNatClampNeg ((5 * (nI j)) + 1)))) 56))) + (fo_cd g_alphabet (fo_gr (g_cardBytes (Int32.toNatClampNeg ((5 * (nI j)) + 2)))) 56))) + (fo_cd g_alphabet (fo_gr (g_cardBytes (Int32.toNatClampNeg ((5 * (nI j)) + 3)))) 56)))]) ⟨hx, hb, hml, hown, hts⟩ (kF_code l D E hn1 q b1 b2 b3 b4 b5 b6 b7 b8 b9 b10 b11 b12 b13 b14 ti ops (nI cn) tsz g_alphabet (g_cardBytes (Int32.toNatClampNeg ((5 * (nI j)) + 4))) fq2 fq5 H.size) (cwV 1 hts (ur_gV mw710 mw712 ms14 mw11 mw713) rfl rfl rfl (by decide +kernel) ⟨(Nat.le_of_ble_eq_true rfl), (Nat.le_of_ble_eq_true rfl)⟩) ⟨ur_blind, va_recv hV (ur_one hI.1 fq2) (ci := 7) (q0 := 0) rfl rfl, ur_pre hI hO hK (fun _ _ q => q)⟩ rfl rfl hl.1 rfl (lv_room (Nat.le_of_ble_eq_true rfl)) dF_readCard_32 ⟨Nat.le_of_ble_eq_true rfl, Nat.le_of_ble_eq_true rfl⟩) hI (fun r28 h28 H locs p28 hI => ?_)
        obtain ⟨er28, eh28⟩ := p28
        replace eh28 := eh28.symm; subst eh28
        replace er28 := er28.symm; subst er28
        refine lv_iadd hx hb dF_readCard_35 ?_
        refine lv_istore_n (lv' := [(2, .int ((64 * ((64 * ((64 * ((64 * ((64 * 0) + (fo_cd g_alphabet (fo_gr (g_cardBytes (Int32.toNatClampNeg ((5 * (nI j)) + 0)))) 56))) + (fo_cd g_alphabet (fo_gr (g_cardBytes (Int32.toNatClampNeg ((5 * (nI j)) + 1)))) 56))) + (fo_cd g_alphabet (fo_gr (g_cardBytes (Int32.toNatClampNeg ((5 * (nI j)) + 2)))) 56))) + (fo_cd g_alphabet (fo_gr (g_cardBytes (Int32.toNatClampNeg ((5 * (nI j)) + 3)))) 56))) + (fo_cd g_alphabet (fo_gr (g_cardBytes (Int32.toNatClampNeg ((5 * (nI j)) + 4)))) 56))), (3, .int 4), (0, .ref q), (1, .int (nI j))]) hx hb dF_readCard_36 rfl hl (by decide) rfl (fun ls hl => ?_)
        refine lv_iinc (v := 5) (lv' := [(3, .int 5), (2, .int ((64 * ((64 * ((64 * ((64 * ((64 * 0) + (fo_cd g_alphabet (fo_gr (g_cardBytes (Int32.toNatClampNeg ((5 * (nI j)) + 0)))) 56))) + (fo_cd g_alphabet (fo_gr (g_cardBytes (Int32.toNatClampNeg ((5 * (nI j)) + 1)))) 56))) + (fo_cd g_alphabet (fo_gr (g_cardBytes (Int32.toNatClampNeg ((5 * (nI j)) + 2)))) 56))) + (fo_cd g_alphabet (fo_gr (g_cardBytes (Int32.toNatClampNeg ((5 * (nI j)) + 3)))) 56))) + (fo_cd g_alphabet (fo_gr (g_cardBytes (Int32.toNatClampNeg ((5 * (nI j)) + 4)))) 56))), (0, .ref q), (1, .int (nI j))]) hx hb dF_readCard_37 hl (k := 1) rfl (by decide) (by decide) rfl (fun ls hl => ?_)
        refine lv_goto (tgt := 12) hx hb dF_readCard_40 (by decide) ?_
        refine lv_iload_n hx hb dF_readCard_12 rfl (lv_at hl 0 rfl) ?_
        refine lv_iconst (v := 5) hx hb dF_readCard_13 (by decide) ?_
        refine lv_icmp_ge (tgt := 43) hx hb dF_readCard_14 (by decide) (fun c29 => ?_) (fun c29 => absurd c29 (by decide))
        refine lv_aload_n hx hb dF_readCard_43 rfl (lv_at hl 2 rfl) ?_
        refine va_get (D := D) (ci := 7) (v := .ref b8) (C := "UnitRoomModel") (T := TF) (N := 18) hx hb hts inF hown hV (ur_one hI.1 fq2) 0 rfl rfl 9 (by decide) (hts _ mw586) (fun _ h9 => h9) rfl dF_readCard_44 ?_
        refine lv_sipush (v := 600) hx hb dF_readCard_47 (by decide) ?_
        refine lv_iload_n hx hb dF_readCard_50 rfl (lv_at hl 3 rfl) ?_
        refine lv_iadd hx hb dF_readCard_51 ?_
        refine lv_iload_n hx hb dF_readCard_52 rfl (lv_at hl 1 rfl) ?_
        refine ur_iast hx hb hV hI 0 fq3 rfl (by rw [show (600 : Int32) = nI 600 from rfl, nI_add]; exact vp_in_nI (by omega) (by decide)) dF_readCard_53 (fun H locs hI => ?_)
        obtain ⟨h30, eh30⟩ : ∃ z : ur_M, z = va_up hn1 b8 (some (.inl (E.1 0, 1000, .inl (upd (fo_rb g_brought g_alphabet g_cardBytes j) (Int32.toNatClampNeg (600 + (nI j))) ((64 * ((64 * ((64 * ((64 * ((64 * 0) + (fo_cd g_alphabet (fo_gr (g_cardBytes (Int32.toNatClampNeg ((5 * (nI j)) + 0)))) 56))) + (fo_cd g_alphabet (fo_gr (g_cardBytes (Int32.toNatClampNeg ((5 * (nI j)) + 1)))) 56))) + (fo_cd g_alphabet (fo_gr (g_cardBytes (Int32.toNatClampNeg ((5 * (nI j)) + 2)))) 56))) + (fo_cd g_alphabet (fo_gr (g_cardBytes (Int32.toNatClampNeg ((5 * (nI j)) + 3)))) 56))) + (fo_cd g_alphabet (fo_gr (g_cardBytes (Int32.toNatClampNeg ((5 * (nI j)) + 4)))) 56)))))) := ⟨_, rfl⟩
        replace hI : ur_I D vwCl (ur_A h s.heap.size) s.heap h30 H locs := by rw [eh30]; exact hI
        have fq31 : h30 q = some (.inr (7, [.ref b1, .ref b2, .ref b3, .long ti, .ref b4, .ref b5, .ref b6, .ref b7, .int ops, .ref b8, .int (nI cn), .ref b9, .ref b10, .ref b11, .ref b12, .ref b13, .int tsz, .ref b14])) := by rw [eh30]; exact ((va_up_ne _ _ (ur_ne fq2 fq3 (by intro z; simp at z))).trans fq2)
        have fq32 : h30 b8 = some (.inl (E.1 0, 1000, .inl (upd (fo_rb g_brought g_alphabet g_cardBytes j) (Int32.toNatClampNeg (600 + (nI j))) ((64 * ((64 * ((64 * ((64 * ((64 * 0) + (fo_cd g_alphabet (fo_gr (g_cardBytes (Int32.toNatClampNeg ((5 * (nI j)) + 0)))) 56))) + (fo_cd g_alphabet (fo_gr (g_cardBytes (Int32.toNatClampNeg ((5 * (nI j)) + 1)))) 56))) + (fo_cd g_alphabet (fo_gr (g_cardBytes (Int32.toNatClampNeg ((5 * (nI j)) + 2)))) 56))) + (fo_cd g_alphabet (fo_gr (g_cardBytes (Int32.toNatClampNeg ((5 * (nI j)) + 3)))) 56))) + (fo_cd g_alphabet (fo_gr (g_cardBytes (Int32.toNatClampNeg ((5 * (nI j)) + 4)))) 56))))) := by rw [eh30]; exact (va_up_self _ _ _)
        have fq33 : h30 b9 = some (.inl (E.1 0, 8000, .inl g_cardBytes)) := by rw [eh30]; exact ((va_up_ne _ _ (ur_ne fq4 fq3 (by intro z; simp at z))).trans fq4)
        have fq34 : h30 b14 = some (.inl (E.1 0, 56, .inl g_alphabet)) := by rw [eh30]; exact ((va_up_ne _ _ (ur_ne fq5 fq3 (by intro z; simp at z))).trans fq5)
        refine lv_iinc (v := ((nI j) + 1)) (lv' := [(1, .int ((nI j) + 1)), (3, .int 5), (2, .int ((64 * ((64 * ((64 * ((64 * ((64 * 0) + (fo_cd g_alphabet (fo_gr (g_cardBytes (Int32.toNatClampNeg ((5 * (nI j)) + 0)))) 56))) + (fo_cd g_alphabet (fo_gr (g_cardBytes (Int32.toNatClampNeg ((5 * (nI j)) + 1)))) 56))) + (fo_cd g_alphabet (fo_gr (g_cardBytes (Int32.toNatClampNeg ((5 * (nI j)) + 2)))) 56))) + (fo_cd g_alphabet (fo_gr (g_cardBytes (Int32.toNatClampNeg ((5 * (nI j)) + 3)))) 56))) + (fo_cd g_alphabet (fo_gr (g_cardBytes (Int32.toNatClampNeg ((5 * (nI j)) + 4)))) 56))), (0, .ref q)]) hx hb dF_readCard_54 hl (k := 3) rfl rfl (by decide) rfl (fun ls hl => ?_)
        refine lv_goto (tgt := 2) hx hb dF_readCard_57 (by decide) ?_
        rw [nI_1] at hl
        exact ihn1 (j + 1) h30 H locs ls (by omega) hlt (by rw [eh30, ehn1, bx_uu, show (600 : Int32) + nI j = nI (600 + j) from (by rw [show (600 : Int32) = nI 600 from rfl, nI_add]), nI_clamp (show 600 + j < 2 ^ 31 by omega), show (5 * nI j + 0 : Int32) = nI (5 * j + 0) from fo_5 (c := 0), nI_clamp (show 5 * j + 0 < 2 ^ 31 by omega), show (5 * nI j + 1 : Int32) = nI (5 * j + 1) from fo_5 (c := 1), nI_clamp (show 5 * j + 1 < 2 ^ 31 by omega), show (5 * nI j + 2 : Int32) = nI (5 * j + 2) from fo_5 (c := 2), nI_clamp (show 5 * j + 2 < 2 ^ 31 by omega), show (5 * nI j + 3 : Int32) = nI (5 * j + 3) from fo_5 (c := 3), nI_clamp (show 5 * j + 3 < 2 ^ 31 by omega), show (5 * nI j + 4 : Int32) = nI (5 * j + 4) from fo_5 (c := 4), nI_clamp (show 5 * j + 4 < 2 ^ 31 by omega)]; rfl) hI (lv_sub hl [3, 0] rfl)
  exact lpn1 _ 0 h _ _ ls (Nat.lt_succ_self _) (by decide) ((ur_same f1).symm) hI (lv_sub hl [1, 0] rfl)
