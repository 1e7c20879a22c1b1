theorem dF_feed_0 : decode cF_feed 0 = .ok (.aload_n 0, 1) := by decide +kernel
theorem dF_feed_1 : decode cF_feed 1 = .ok (.getfield 60, 3) := by decide +kernel
theorem dF_feed_4 : decode cF_feed 4 = .ok (.bipush 20, 2) := by decide +kernel
theorem dF_feed_6 : decode cF_feed 6 = .ok (.iadd, 1) := by decide +kernel
theorem dF_feed_7 : decode cF_feed 7 = .ok (.sipush 400, 3) := by decide +kernel
theorem dF_feed_10 : decode cF_feed 10 = .ok (.if_icmp .le 5, 3) := by decide +kernel
theorem dF_feed_13 : decode cF_feed 13 = .ok (.iconst 0, 1) := by decide +kernel
theorem dF_feed_14 : decode cF_feed 14 = .ok (.ireturn, 1) := by decide +kernel
theorem dF_feed_15 : decode cF_feed 15 = .ok (.iconst 0, 1) := by decide +kernel
theorem dF_feed_16 : decode cF_feed 16 = .ok (.istore 6, 2) := by decide +kernel
theorem dF_feed_18 : decode cF_feed 18 = .ok (.iload 6, 2) := by decide +kernel
theorem dF_feed_20 : decode cF_feed 20 = .ok (.bipush 20, 2) := by decide +kernel
theorem dF_feed_22 : decode cF_feed 22 = .ok (.if_icmp .ge 93, 3) := by decide +kernel
theorem dF_feed_25 : decode cF_feed 25 = .ok (.iload 6, 2) := by decide +kernel
theorem dF_feed_27 : decode cF_feed 27 = .ok (.iconst 4, 1) := by decide +kernel
theorem dF_feed_28 : decode cF_feed 28 = .ok (.if_icmp .ge 7, 3) := by decide +kernel
theorem dF_feed_31 : decode cF_feed 31 = .ok (.iload_n 1, 1) := by decide +kernel
theorem dF_feed_32 : decode cF_feed 32 = .ok (.goto 39, 3) := by decide +kernel
theorem dF_feed_35 : decode cF_feed 35 = .ok (.iload 6, 2) := by decide +kernel
theorem dF_feed_37 : decode cF_feed 37 = .ok (.bipush 8, 2) := by decide +kernel
theorem dF_feed_39 : decode cF_feed 39 = .ok (.if_icmp .ge 7, 3) := by decide +kernel
theorem dF_feed_42 : decode cF_feed 42 = .ok (.iload_n 2, 1) := by decide +kernel
theorem dF_feed_43 : decode cF_feed 43 = .ok (.goto 28, 3) := by decide +kernel
theorem dF_feed_46 : decode cF_feed 46 = .ok (.iload 6, 2) := by decide +kernel
theorem dF_feed_48 : decode cF_feed 48 = .ok (.bipush 12, 2) := by decide +kernel
theorem dF_feed_50 : decode cF_feed 50 = .ok (.if_icmp .ge 7, 3) := by decide +kernel
theorem dF_feed_53 : decode cF_feed 53 = .ok (.iload_n 3, 1) := by decide +kernel
theorem dF_feed_54 : decode cF_feed 54 = .ok (.goto 17, 3) := by decide +kernel
theorem dF_feed_57 : decode cF_feed 57 = .ok (.iload 6, 2) := by decide +kernel
theorem dF_feed_59 : decode cF_feed 59 = .ok (.bipush 16, 2) := by decide +kernel
theorem dF_feed_61 : decode cF_feed 61 = .ok (.if_icmp .ge 8, 3) := by decide +kernel
theorem dF_feed_64 : decode cF_feed 64 = .ok (.iload 4, 2) := by decide +kernel
theorem dF_feed_66 : decode cF_feed 66 = .ok (.goto 5, 3) := by decide +kernel
theorem dF_feed_69 : decode cF_feed 69 = .ok (.iload 5, 2) := by decide +kernel
theorem dF_feed_71 : decode cF_feed 71 = .ok (.istore 7, 2) := by decide +kernel
theorem dF_feed_73 : decode cF_feed 73 = .ok (.aload_n 0, 1) := by decide +kernel
theorem dF_feed_74 : decode cF_feed 74 = .ok (.getfield 51, 3) := by decide +kernel
theorem dF_feed_77 : decode cF_feed 77 = .ok (.aload_n 0, 1) := by decide +kernel
theorem dF_feed_78 : decode cF_feed 78 = .ok (.getfield 60, 3) := by decide +kernel
theorem dF_feed_81 : decode cF_feed 81 = .ok (.iload 7, 2) := by decide +kernel
theorem dF_feed_83 : decode cF_feed 83 = .ok (.bipush 24, 2) := by decide +kernel
theorem dF_feed_85 : decode cF_feed 85 = .ok (.bipush 8, 2) := by decide +kernel
theorem dF_feed_87 : decode cF_feed 87 = .ok (.iload 6, 2) := by decide +kernel
theorem dF_feed_89 : decode cF_feed 89 = .ok (.iconst 4, 1) := by decide +kernel
theorem dF_feed_90 : decode cF_feed 90 = .ok (.irem, 1) := by decide +kernel
theorem dF_feed_91 : decode cF_feed 91 = .ok (.imul, 1) := by decide +kernel
theorem dF_feed_92 : decode cF_feed 92 = .ok (.isub, 1) := by decide +kernel
theorem dF_feed_93 : decode cF_feed 93 = .ok (.ishr, 1) := by decide +kernel
theorem dF_feed_94 : decode cF_feed 94 = .ok (.sipush 255, 3) := by decide +kernel
theorem dF_feed_97 : decode cF_feed 97 = .ok (.iand, 1) := by decide +kernel
theorem dF_feed_98 : decode cF_feed 98 = .ok (.iastore, 1) := by decide +kernel
theorem dF_feed_99 : decode cF_feed 99 = .ok (.aload_n 0, 1) := by decide +kernel
theorem dF_feed_100 : decode cF_feed 100 = .ok (.dup, 1) := by decide +kernel
theorem dF_feed_101 : decode cF_feed 101 = .ok (.getfield 60, 3) := by decide +kernel
theorem dF_feed_104 : decode cF_feed 104 = .ok (.iconst 1, 1) := by decide +kernel
theorem dF_feed_105 : decode cF_feed 105 = .ok (.iadd, 1) := by decide +kernel
theorem dF_feed_106 : decode cF_feed 106 = .ok (.putfield 60, 3) := by decide +kernel
theorem dF_feed_109 : decode cF_feed 109 = .ok (.iinc 6 1, 3) := by decide +kernel
theorem dF_feed_112 : decode cF_feed 112 = .ok (.goto (-94), 3) := by decide +kernel
theorem dF_feed_115 : decode cF_feed 115 = .ok (.iconst 1, 1) := by decide +kernel
theorem dF_feed_116 : decode cF_feed 116 = .ok (.ireturn, 1) := by decide +kernel
abbrev rmkF_feed : Room := { frames := 0, cells := 0, slots := 0, locals := 0 }
set_option maxHeartbeats 4000000 in
set_option maxRecDepth 100000 in
theorem kF_feed (l : Launch) (D : va_G) (E : ur_Ev) (h : ur_M) (q : Nat) (b1 : Nat) (b2 : Nat) (b3 : Nat) (b4 : Nat) (b5 : Nat) (b6 : Nat) (b7 : Nat) (b8 : Nat) (b9 : Nat) (b10 : Nat) (b11 : Nat) (b12 : Nat) (b13 : Nat) (b14 : Nat) (ti : Int64) (ops : Int32) (cds : Int32) (n : Nat) (v1 : Int32) (v2 : Int32) (v3 : Int32) (v4 : Int32) (v5 : Int32) (g_tape : Nat → Int32) (f0 : h q = some (.inr (7, [.ref b1, .ref b2, .ref b3, .long ti, .ref b4, .ref b5, .ref b6, .ref b7, .int ops, .ref b8, .int cds, .ref b9, .ref b10, .ref b11, .ref b12, .ref b13, .int (nI n), .ref b14]))) (f1 : h b13 = some (.inl (E.1 0, 400, .inl g_tape))) (hn : n ≤ 380) : ur_Mi l yF_feed wsF_feed rmkF_feed D vwCl (ur_v E) [.ref q, .int v1, .int v2, .int v3, .int v4, .int v5] h (fun r h2 => r = um_b (true) ∧ h2 = va_up (va_up h b13 (some (.inl (E.1 0, 400, .inl (fo_fdF g_tape n v1 v2 v3 v4 v5 20))))) q (some (.inr (7, [.ref b1, .ref b2, .ref b3, .long ti, .ref b4, .ref b5, .ref b6, .ref b7, .int ops, .ref b8, .int cds, .ref b9, .ref b10, .ref b11, .ref b12, .ref b13, .int (nI (n + 20)), .ref b14])))) 0 0 := by
  intro sz
  refine ur_of (cc := cF_feed) (maxL := 8) (ret := (some .boolean)) (by decide) rfl (Nat.le_of_ble_eq_true rfl) ?_
  intro p e s m args below meth c ls Q hsz hx hb hml hr hlocks hnm hown hts hO hK hI hQ hl
  subst hsz
  have hV := hK.1
  have hts : ∀ w ∈ ur_G, w.before args s = true := fun w hw => hts w (List.mem_cons_of_mem _ hw)
  have hZ : ur_Z E (ur_A h s.heap.size) s s.heap := hO.1
  have hown : s.vm.findClass "UnitRoomModel" = some m.cls := hown
  have hl : lv_has ls 8 [(0, .ref q), (1, .int v1), (2, .int v2), (3, .int v3), (4, .int v4), (5, .int v5)] := hl
  refine lv_aload_n hx hb dF_feed_0 rfl (lv_at hl 0 rfl) ?_
  refine va_get (D := D) (ci := 7) (v := .int (nI n)) (C := "UnitRoomModel") (T := TF) (N := 18) hx hb hts inF hown hV (ur_one hI.1 f0) 0 rfl rfl 16 (by decide) (hts _ mw593) (fun _ h9 => h9) rfl dF_feed_1 ?_
  refine lv_bipush (v := 20) hx hb dF_feed_4 (by decide) ?_
  refine lv_iadd hx hb dF_feed_6 ?_
  refine lv_sipush (v := 400) hx hb dF_feed_7 (by decide) ?_
  refine lv_icmp_le (tgt := 15) hx hb dF_feed_10 (by decide) (fun c1 => ?_) (fun c1 => absurd c1 (not_not_intro ((fo_20 (by omega)).mpr hn)))
  refine lv_iconst (v := 0) hx hb dF_feed_15 (by decide) ?_
  refine lv_istore (lv' := [(6, .int 0), (0, .ref q), (1, .int v1), (2, .int v2), (3, .int v3), (4, .int v4), (5, .int v5)]) hx hb dF_feed_16 hl (by decide) rfl (fun ls hl => ?_)
  have hne : b13 ≠ q := ur_ne f1 f0 (by intro z; simp at z)
  have lpn2 : ∀ (n2 : Nat) (k : Nat) (hn2 : ur_M) (H : Heap) (locs : List Loc) (ls : Array Slot), 20 - k < n2 → (k ≤ 20) → hn2 = va_up (va_up h b13 (some (.inl (E.1 0, 400, .inl (fo_fdF g_tape n v1 v2 v3 v4 v5 k))))) q (some (.inr (7, [.ref b1, .ref b2, .ref b3, .long ti, .ref b4, .ref b5, .ref b6, .ref b7, .int ops, .ref b8, .int cds, .ref b9, .ref b10, .ref b11, .ref b12, .ref b13, .int (nI (n + k)), .ref b14]))) → ur_I D vwCl (ur_A h s.heap.size) s.heap hn2 H locs → lv_has ls 8 [(0, .ref q), (1, .int v1), (2, .int v2), (3, .int v3), (4, .int v4), (5, .int v5), (6, .int (nI k))] → W p l e rmkF_feed s m args below meth c H locs 0 0 Q (F0 m 18 ls []) := by
    intro n2
    induction n2 with
    | zero => intro k hn2 H locs ls hnn2; exact absurd hnn2 (Nat.not_lt_zero _)
    | succ n2 ihn2 =>
      intro k hn2 H locs ls hnn2 hk ehn2 hI hl
      have fq3 : hn2 q = some (.inr (7, [.ref b1, .ref b2, .ref b3, .long ti, .ref b4, .ref b5, .ref b6, .ref b7, .int ops, .ref b8, .int cds, .ref b9, .ref b10, .ref b11, .ref b12, .ref b13, .int (nI (n + k)), .ref b14])) := by rw [ehn2]; exact va_up_self _ _ _
      have fq4 : hn2 b13 = some (.inl (E.1 0, 400, .inl (fo_fdF g_tape n v1 v2 v3 v4 v5 k))) := by rw [ehn2]; exact (va_up_ne _ _ hne).trans (va_up_self _ _ _)
      refine lv_iload hx hb dF_feed_18 (lv_at hl 6 rfl) ?_
      refine lv_bipush (v := 20) hx hb dF_feed_20 (by decide) ?_
      refine lv_icmp_ge (tgt := 115) hx hb dF_feed_22 (by decide) (fun c5 => ?_) (fun c5 => ?_)
      · have he9 : k = 20 := Nat.le_antisymm hk (Nat.not_lt.mp (fun z9 => nI_ge (b := 20) z9 (by decide) c5))
        refine lv_iconst (v := 1) hx hb dF_feed_115 (by decide) ?_
        exact ur_rz hx hb hr hlocks hI hQ rfl ⟨rfl, (by rw [ehn2, he9])⟩ dF_feed_116
      · have hlt : k < 20 := Nat.not_le.mp (fun z9 => c5 (nI_le z9 (by omega)))
        refine lv_iload hx hb dF_feed_25 (lv_at hl 6 rfl) ?_
        refine lv_iconst (v := 4) hx hb dF_feed_27 (by decide) ?_
        refine lv_icmp_ge (tgt := 35) hx hb dF_feed_28 (by decide) (fun c6 => ?_) (fun c6 => ?_)
        · refine lv_iload hx hb dF_feed_35 (lv_at hl 6 rfl) ?_
          refine lv_bipush (v := 8) hx hb dF_feed_37 (by decide) ?_
          refine lv_icmp_ge (tgt := 46) hx hb dF_feed_39 (by decide) (fun c7 => ?_) (fun c7 => ?_)
          · refine lv_iload hx hb dF_feed_46 (lv_at hl 6 rfl) ?_
            refine lv_bipush (v := 12) hx hb dF_feed_48 (by decide) ?_
            refine lv_icmp_ge (tgt := 57) hx hb dF_feed_50 (by decide) (fun c8 => ?_) (fun c8 => ?_)
            · refine lv_iload hx hb dF_feed_57 (lv_at hl 6 rfl) ?_
              refine lv_bipush (v := 16) hx hb dF_feed_59 (by decide) ?_
              refine lv_icmp_ge (tgt := 69) hx hb dF_feed_61 (by decide) (fun c9 => ?_) (fun c9 => ?_)
              · refine lv_iload hx hb dF_feed_69 (lv_at hl 5 rfl) ?_
                refine lv_topi (fun x9 ex9 => ?_)
                replace ex9 : x9 = fo_pk v1 v2 v3 v4 v5 (nI k) := by rw [ex9]; unfold fo_pk; rw [if_pos c6, if_pos c7, if_pos c8, if_pos c9]
                subst ex9
                refine lv_istore (lv' := [(7, .int (fo_pk v1 v2 v3 v4 v5 (nI k))), (0, .ref q), (1, .int v1), (2, .int v2), (3, .int v3), (4, .int v4), (5, .int v5), (6, .int (nI k))]) hx hb dF_feed_71 hl (by decide) rfl (fun ls hl => ?_)
                refine lv_aload_n hx hb dF_feed_73 rfl (lv_at hl 1 rfl) ?_
                refine va_get (D := D) (ci := 7) (v := .ref b13) (C := "UnitRoomModel") (T := TF) (N := 18) hx hb hts inF hown hV (ur_one hI.1 fq3) 0 rfl rfl 15 (by decide) (hts _ mw592) (fun _ h9 => h9) rfl dF_feed_74 ?_
                refine lv_aload_n hx hb dF_feed_77 rfl (lv_at hl 1 rfl) ?_
                refine va_get (D := D) (ci := 7) (v := .int (nI (n + k))) (C := "UnitRoomModel") (T := TF) (N := 18) hx hb hts inF hown hV (ur_one hI.1 fq3) 0 rfl rfl 16 (by decide) (hts _ mw593) (fun _ h9 => h9) rfl dF_feed_78 ?_
                refine lv_iload hx hb dF_feed_81 (lv_at hl 0 rfl) ?_
                refine lv_bipush (v := 24) hx hb dF_feed_83 (by decide) ?_
                refine lv_bipush (v := 8) hx hb dF_feed_85 (by decide) ?_
                refine lv_iload hx hb dF_feed_87 (lv_at hl 7 rfl) ?_
                refine lv_iconst (v := 4) hx hb dF_feed_89 (by decide) ?_
                refine lv_irem hx hb dF_feed_90 (by decide) ?_
                refine lv_imul hx hb dF_feed_91 ?_
                refine lv_isub hx hb dF_feed_92 ?_
                refine lv_ishr hx hb dF_feed_93 ?_
                refine lv_sipush (v := 255) hx hb dF_feed_94 (by decide) ?_
                refine lv_iand hx hb dF_feed_97 ?_
                refine ur_iast hx hb hV hI 0 fq4 rfl (vp_in_nI (by omega) (by decide)) dF_feed_98 (fun H locs hI => ?_)
                obtain ⟨h10, eh10⟩ : ∃ z : ur_M, z = va_up hn2 b13 (some (.inl (E.1 0, 400, .inl (upd (fo_fdF g_tape n v1 v2 v3 v4 v5 k) (Int32.toNatClampNeg (nI (n + k))) (((fo_pk v1 v2 v3 v4 v5 (nI k)) >>> ((24 - (8 * ((nI k) - (nI k) / 4 * 4))) &&& 31)) &&& 255))))) := ⟨_, rfl⟩
                replace hI : ur_I D vwCl (ur_A h s.heap.size) s.heap h10 H locs := by rw [eh10]; exact hI
                have fq11 : h10 q = some (.inr (7, [.ref b1, .ref b2, .ref b3, .long ti, .ref b4, .ref b5, .ref b6, .ref b7, .int ops, .ref b8, .int cds, .ref b9, .ref b10, .ref b11, .ref b12, .ref b13, .int (nI (n + k)), .ref b14])) := by rw [eh10]; exact ((va_up_ne _ _ (Ne.symm hne)).trans fq3)
                have fq12 : h10 b13 = some (.inl (E.1 0, 400, .inl (upd (fo_fdF g_tape n v1 v2 v3 v4 v5 k) (Int32.toNatClampNeg (nI (n + k))) (((fo_pk v1 v2 v3 v4 v5 (nI k)) >>> ((24 - (8 * ((nI k) - (nI k) / 4 * 4))) &&& 31)) &&& 255)))) := by rw [eh10]; exact (va_up_self _ _ _)
                refine lv_aload_n hx hb dF_feed_99 rfl (lv_at hl 1 rfl) ?_
                refine lv_dup hx hb dF_feed_100 rfl ?_
                refine va_get (D := D) (ci := 7) (v := .int (nI (n + k))) (C := "UnitRoomModel") (T := TF) (N := 18) hx hb hts inF hown hV (ur_one hI.1 fq11) 0 rfl rfl 16 (by decide) (hts _ mw593) (fun _ h9 => h9) rfl dF_feed_101 ?_
                refine lv_iconst (v := 1) hx hb dF_feed_104 (by decide) ?_
                refine lv_iadd hx hb dF_feed_105 ?_
                refine ur_put (D := D) (ci := 7) (v := .int ((nI (n + k)) + 1)) (ty := .int) (C := "UnitRoomModel") (T := TF) (N := 18) hx hb hts inF tyF tyF_ok nmF hown hV hI fq11 rfl 16 (by decide) (hts _ mw593) (fun _ h9 => h9) rfl (by decide +kernel) rfl rfl (Nat.le_of_ble_eq_true rfl) dF_feed_106 (fun H locs hI => ?_)
                obtain ⟨h13, eh13⟩ : ∃ z : ur_M, z = va_up h10 q (some (.inr (7, [.ref b1, .ref b2, .ref b3, .long ti, .ref b4, .ref b5, .ref b6, .ref b7, .int ops, .ref b8, .int cds, .ref b9, .ref b10, .ref b11, .ref b12, .ref b13, .int ((nI (n + k)) + 1), .ref b14]))) := ⟨_, rfl⟩
                replace hI : ur_I D vwCl (ur_A h s.heap.size) s.heap h13 H locs := by rw [eh13]; exact hI
                have fq14 : h13 q = some (.inr (7, [.ref b1, .ref b2, .ref b3, .long ti, .ref b4, .ref b5, .ref b6, .ref b7, .int ops, .ref b8, .int cds, .ref b9, .ref b10, .ref b11, .ref b12, .ref b13, .int ((nI (n + k)) + 1), .ref b14])) := by rw [eh13]; exact (va_up_self _ _ _)
                have fq15 : h13 b13 = some (.inl (E.1 0, 400, .inl (upd (fo_fdF g_tape n v1 v2 v3 v4 v5 k) (Int32.toNatClampNeg (nI (n + k))) (((fo_pk v1 v2 v3 v4 v5 (nI k)) >>> ((24 - (8 * ((nI k) - (nI k) / 4 * 4))) &&& 31)) &&& 255)))) := by rw [eh13]; exact ((va_up_ne _ _ hne).trans fq12)
                refine lv_iinc (v := ((nI k) + 1)) (lv' := [(6, .int ((nI k) + 1)), (7, .int (fo_pk v1 v2 v3 v4 v5 (nI k))), (0, .ref q), (1, .int v1), (2, .int v2), (3, .int v3), (4, .int v4), (5, .int v5)]) hx hb dF_feed_109 hl (k := 7) rfl rfl (by decide) rfl (fun ls hl => ?_)
                refine lv_goto (tgt := 18) hx hb dF_feed_112 (by decide) ?_
                rw [nI_1] at hl
                exact ihn2 (k + 1) h13 H locs ls (by omega) hlt (by rw [eh13, eh10, ehn2, ur_alt hne, nI_clamp (show n + k < 2 ^ 31 by omega), nI_1]; rfl) hI (lv_sub hl [2, 3, 4, 5, 6, 7, 0] rfl)
              · refine lv_iload hx hb dF_feed_64 (lv_at hl 4 rfl) ?_
                refine lv_goto (tgt := 71) hx hb dF_feed_66 (by decide) ?_
                refine lv_topi (fun x9 ex9 => ?_)
                replace ex9 : x9 = fo_pk v1 v2 v3 v4 v5 (nI k) := by rw [ex9]; unfold fo_pk; rw [if_pos c6, if_pos c7, if_pos c8, if_neg c9]
                subst ex9
                refine lv_istore (lv' := [(7, .int (fo_pk v1 v2 v3 v4 v5 (nI k))), (0, .ref q), (1, .int v1), (2, .int v2), (3, .int v3), (4, .int v4), (5, .int v5), (6, .int (nI k))]) hx hb dF_feed_71 hl (by decide) rfl (fun ls hl => ?_)
                refine lv_aload_n hx hb dF_feed_73 rfl (lv_at hl 1 rfl) ?_
                refine va_get (D := D) (ci := 7) (v := .ref b13) (C := "UnitRoomModel") (T := TF) (N := 18) hx hb hts inF hown hV (ur_one hI.1 fq3) 0 rfl rfl 15 (by decide) (hts _ mw592) (fun _ h9 => h9) rfl dF_feed_74 ?_
                refine lv_aload_n hx hb dF_feed_77 rfl (lv_at hl 1 rfl) ?_
                refine va_get (D := D) (ci := 7) (v := .int (nI (n + k))) (C := "UnitRoomModel") (T := TF) (N := 18) hx hb hts inF hown hV (ur_one hI.1 fq3) 0 rfl rfl 16 (by decide) (hts _ mw593) (fun _ h9 => h9) rfl dF_feed_78 ?_
                refine lv_iload hx hb dF_feed_81 (lv_at hl 0 rfl) ?_
                refine lv_bipush (v := 24) hx hb dF_feed_83 (by decide) ?_
                refine lv_bipush (v := 8) hx hb dF_feed_85 (by decide) ?_
                refine lv_iload hx hb dF_feed_87 (lv_at hl 7 rfl) ?_
                refine lv_iconst (v := 4) hx hb dF_feed_89 (by decide) ?_
                refine lv_irem hx hb dF_feed_90 (by decide) ?_
                refine lv_imul hx hb dF_feed_91 ?_
                refine lv_isub hx hb dF_feed_92 ?_
                refine lv_ishr hx hb dF_feed_93 ?_
                refine lv_sipush (v := 255) hx hb dF_feed_94 (by decide) ?_
                refine lv_iand hx hb dF_feed_97 ?_
                refine ur_iast hx hb hV hI 0 fq4 rfl (vp_in_nI (by omega) (by decide)) dF_feed_98 (fun H locs hI => ?_)
                obtain ⟨h16, eh16⟩ : ∃ z : ur_M, z = va_up hn2 b13 (some (.inl (E.1 0, 400, .inl (upd (fo_fdF g_tape n v1 v2 v3 v4 v5 k) (Int32.toNatClampNeg (nI (n + k))) (((fo_pk v1 v2 v3 v4 v5 (nI k)) >>> ((24 - (8 * ((nI k) - (nI k) / 4 * 4))) &&& 31)) &&& 255))))) := ⟨_, rfl⟩
                replace hI : ur_I D vwCl (ur_A h s.heap.size) s.heap h16 H locs := by rw [eh16]; exact hI
                have fq17 : h16 q = some (.inr (7, [.ref b1, .ref b2, .ref b3, .long ti, .ref b4, .ref b5, .ref b6, .ref b7, .int ops, .ref b8, .int cds, .ref b9, .ref b10, .ref b11, .ref b12, .ref b13, .int (nI (n + k)), .ref b14])) := by rw [eh16]; exact ((va_up_ne _ _ (Ne.symm hne)).trans fq3)
                have fq18 : h16 b13 = some (.inl (E.1 0, 400, .inl (upd (fo_fdF g_tape n v1 v2 v3 v4 v5 k) (Int32.toNatClampNeg (nI (n + k))) (((fo_pk v1 v2 v3 v4 v5 (nI k)) >>> ((24 - (8 * ((nI k) - (nI k) / 4 * 4))) &&& 31)) &&& 255)))) := by rw [eh16]; exact (va_up_self _ _ _)
                refine lv_aload_n hx hb dF_feed_99 rfl (lv_at hl 1 rfl) ?_
                refine lv_dup hx hb dF_feed_100 rfl ?_
                refine va_get (D := D) (ci := 7) (v := .int (nI (n + k))) (C := "UnitRoomModel") (T := TF) (N := 18) hx hb hts inF hown hV (ur_one hI.1 fq17) 0 rfl rfl 16 (by decide) (hts _ mw593) (fun _ h9 => h9) rfl dF_feed_101 ?_
                refine lv_iconst (v := 1) hx hb dF_feed_104 (by decide) ?_
                refine lv_iadd hx hb dF_feed_105 ?_
                refine ur_put (D := D) (ci := 7) (v := .int ((nI (n + k)) + 1)) (ty := .int) (C := "UnitRoomModel") (T := TF) (N := 18) hx hb hts inF tyF tyF_ok nmF hown hV hI fq17 rfl 16 (by decide) (hts _ mw593) (fun _ h9 => h9) rfl (by decide +kernel) rfl rfl (Nat.le_of_ble_eq_true rfl) dF_feed_106 (fun H locs hI => ?_)
                obtain ⟨h19, eh19⟩ : ∃ z : ur_M, z = va_up h16 q (some (.inr (7, [.ref b1, .ref b2, .ref b3, .long ti, .ref b4, .ref b5, .ref b6, .ref b7, .int ops, .ref b8, .int cds, .ref b9, .ref b10, .ref b11, .ref b12, .ref b13, .int ((nI (n + k)) + 1), .ref b14]))) := ⟨_, rfl⟩
                replace hI : ur_I D vwCl (ur_A h s.heap.size) s.heap h19 H locs := by rw [eh19]; exact hI
                have fq20 : h19 q = some (.inr (7, [.ref b1, .ref b2, .ref b3, .long ti, .ref b4, .ref b5, .ref b6, .ref b7, .int ops, .ref b8, .int cds, .ref b9, .ref b10, .ref b11, .ref b12, .ref b13, .int ((nI (n + k)) + 1), .ref b14])) := by rw [eh19]; exact (va_up_self _ _ _)
                have fq21 : h19 b13 = some (.inl (E.1 0, 400, .inl (upd (fo_fdF g_tape n v1 v2 v3 v4 v5 k) (Int32.toNatClampNeg (nI (n + k))) (((fo_pk v1 v2 v3 v4 v5 (nI k)) >>> ((24 - (8 * ((nI k) - (nI k) / 4 * 4))) &&& 31)) &&& 255)))) := by rw [eh19]; exact ((va_up_ne _ _ hne).trans fq18)
                refine lv_iinc (v := ((nI k) + 1)) (lv' := [(6, .int ((nI k) + 1)), (7, .int (fo_pk v1 v2 v3 v4 v5 (nI k))), (0, .ref q), (1, .int v1), (2, .int v2), (3, .int v3), (4, .int v4), (5, .int v5)]) hx hb dF_feed_109 hl (k := 7) rfl rfl (by decide) rfl (fun ls hl => ?_)
                refine lv_goto (tgt := 18) hx hb dF_feed_112 (by decide) ?_
                rw [nI_1] at hl
                exact ihn2 (k + 1) h19 H locs ls (by omega) hlt (by rw [eh19, eh16, ehn2, ur_alt hne, nI_clamp (show n + k < 2 ^ 31 by omega), nI_1]; rfl) hI (lv_sub hl [2, 3, 4, 5, 6, 7, 0] rfl)
            · refine lv_iload_n hx hb dF_feed_53 rfl (lv_at hl 3 rfl) ?_
              refine lv_goto (tgt := 71) hx hb dF_feed_54 (by decide) ?_
              refine lv_topi (fun x9 ex9 => ?_)
              replace ex9 : x9 = fo_pk v1 v2 v3 v4 v5 (nI k) := by rw [ex9]; unfold fo_pk; rw [if_pos c6, if_pos c7, if_neg c8]
              subst ex9
              refine lv_istore (lv' := [(7, .int (fo_pk v1 v2 v3 v4 v5 (nI k))), (0, .ref q), (1, .int v1), (2, .int v2), (3, .int v3), (4, .int v4), (5, .int v5), (6, .int (nI k))]) hx hb dF_feed_71 hl (by decide) rfl (fun ls hl => ?_)
              refine lv_aload_n hx hb dF_feed_73 rfl (lv_at hl 1 rfl) ?_
              refine va_get (D := D) (ci := 7) (v := .ref b13) (C := "UnitRoomModel") (T := TF) (N := 18) hx hb hts inF hown hV (ur_one hI.1 fq3) 0 rfl rfl 15 (by decide) (hts _ mw592) (fun _ h9 => h9) rfl dF_feed_74 ?_
              refine lv_aload_n hx hb dF_feed_77 rfl (lv_at hl 1 rfl) ?_
              refine va_get (D := D) (ci := 7) (v := .int (nI (n + k))) (C := "UnitRoomModel") (T := TF) (N := 18) hx hb hts inF hown hV (ur_one hI.1 fq3) 0 rfl rfl 16 (by decide) (hts _ mw593) (fun _ h9 => h9) rfl dF_feed_78 ?_
              refine lv_iload hx hb dF_feed_81 (lv_at hl 0 rfl) ?_
              refine lv_bipush (v := 24) hx hb dF_feed_83 (by decide) ?_
              refine lv_bipush (v := 8) hx hb dF_feed_85 (by decide) ?_
              refine lv_iload hx hb dF_feed_87 (lv_at hl 7 rfl) ?_
              refine lv_iconst (v := 4) hx hb dF_feed_89 (by decide) ?_
              refine lv_irem hx hb dF_feed_90 (by decide) ?_
              refine lv_imul hx hb dF_feed_91 ?_
              refine lv_isub hx hb dF_feed_92 ?_
              refine lv_ishr hx hb dF_feed_93 ?_
              refine lv_sipush (v := 255) hx hb dF_feed_94 (by decide) ?_
              refine lv_iand hx hb dF_feed_97 ?_
              refine ur_iast hx hb hV hI 0 fq4 rfl (vp_in_nI (by omega) (by decide)) dF_feed_98 (fun H locs hI => ?_)
              obtain ⟨h22, eh22⟩ : ∃ z : ur_M, z = va_up hn2 b13 (some (.inl (E.1 0, 400, .inl (upd (fo_fdF g_tape n v1 v2 v3 v4 v5 k) (Int32.toNatClampNeg (nI (n + k))) (((fo_pk v1 v2 v3 v4 v5 (nI k)) >>> ((24 - (8 * ((nI k) - (nI k) / 4 * 4))) &&& 31)) &&& 255))))) := ⟨_, rfl⟩
              replace hI : ur_I D vwCl (ur_A h s.heap.size) s.heap h22 H locs := by rw [eh22]; exact hI
              have fq23 : h22 q = some (.inr (7, [.ref b1, .ref b2, .ref b3, .long ti, .ref b4, .ref b5, .ref b6, .ref b7, .int ops, .ref b8, .int cds, .ref b9, .ref b10, .ref b11, .ref b12, .ref b13, .int (nI (n + k)), .ref b14])) := by rw [eh22]; exact ((va_up_ne _ _ (Ne.symm hne)).trans fq3)
              have fq24 : h22 b13 = some (.inl (E.1 0, 400, .inl (upd (fo_fdF g_tape n v1 v2 v3 v4 v5 k) (Int32.toNatClampNeg (nI (n + k))) (((fo_pk v1 v2 v3 v4 v5 (nI k)) >>> ((24 - (8 * ((nI k) - (nI k) / 4 * 4))) &&& 31)) &&& 255)))) := by rw [eh22]; exact (va_up_self _ _ _)
              refine lv_aload_n hx hb dF_feed_99 rfl (lv_at hl 1 rfl) ?_
              refine lv_dup hx hb dF_feed_100 rfl ?_
              refine va_get (D := D) (ci := 7) (v := .int (nI (n + k))) (C := "UnitRoomModel") (T := TF) (N := 18) hx hb hts inF hown hV (ur_one hI.1 fq23) 0 rfl rfl 16 (by decide) (hts _ mw593) (fun _ h9 => h9) rfl dF_feed_101 ?_
              refine lv_iconst (v := 1) hx hb dF_feed_104 (by decide) ?_
              refine lv_iadd hx hb dF_feed_105 ?_
              refine ur_put (D := D) (ci := 7) (v := .int ((nI (n + k)) + 1)) (ty := .int) (C := "UnitRoomModel") (T := TF) (N := 18) hx hb hts inF tyF tyF_ok nmF hown hV hI fq23 rfl 16 (by decide) (hts _ mw593) (fun _ h9 => h9) rfl (by decide +kernel) rfl rfl (Nat.le_of_ble_eq_true rfl) dF_feed_106 (fun H locs hI => ?_)
              obtain ⟨h25, eh25⟩ : ∃ z : ur_M, z = va_up h22 q (some (.inr (7, [.ref b1, .ref b2, .ref b3, .long ti, .ref b4, .ref b5, .ref b6, .ref b7, .int ops, .ref b8, .int cds, .ref b9, .ref b10, .ref b11, .ref b12, .ref b13, .int ((nI (n + k)) + 1), .ref b14]))) := ⟨_, rfl⟩
              replace hI : ur_I D vwCl (ur_A h s.heap.size) s.heap h25 H locs := by rw [eh25]; exact hI
              have fq26 : h25 q = some (.inr (7, [.ref b1, .ref b2, .ref b3, .long ti, .ref b4, .ref b5, .ref b6, .ref b7, .int ops, .ref b8, .int cds, .ref b9, .ref b10, .ref b11, .ref b12, .ref b13, .int ((nI (n + k)) + 1), .ref b14])) := by rw [eh25]; exact (va_up_self _ _ _)
              have fq27 : h25 b13 = some (.inl (E.1 0, 400, .inl (upd (fo_fdF g_tape n v1 v2 v3 v4 v5 k) (Int32.toNatClampNeg (nI (n + k))) (((fo_pk v1 v2 v3 v4 v5 (nI k)) >>> ((24 - (8 * ((nI k) - (nI k) / 4 * 4))) &&& 31)) &&& 255)))) := by rw [eh25]; exact ((va_up_ne _ _ hne).trans fq24)
              refine lv_iinc (v := ((nI k) + 1)) (lv' := [(6, .int ((nI k) + 1)), (7, .int (fo_pk v1 v2 v3 v4 v5 (nI k))), (0, .ref q), (1, .int v1), (2, .int v2), (3, .int v3), (4, .int v4), (5, .int v5)]) hx hb dF_feed_109 hl (k := 7) rfl rfl (by decide) rfl (fun ls hl => ?_)
              refine lv_goto (tgt := 18) hx hb dF_feed_112 (by decide) ?_
              rw [nI_1] at hl
              exact ihn2 (k + 1) h25 H locs ls (by omega) hlt (by rw [eh25, eh22, ehn2, ur_alt hne, nI_clamp (show n + k < 2 ^ 31 by omega), nI_1]; rfl) hI (lv_sub hl [2, 3, 4, 5, 6, 7, 0] rfl)
          · refine lv_iload_n hx hb dF_feed_42 rfl (lv_at hl 2 rfl) ?_
            refine lv_goto (tgt := 71) hx hb dF_feed_43 (by decide) ?_
            refine lv_topi (fun x9 ex9 => ?_)
            replace ex9 : x9 = fo_pk v1 v2 v3 v4 v5 (nI k) := by rw [ex9]; unfold fo_pk; rw [if_pos c6, if_neg c7]
            subst ex9
            refine lv_istore (lv' := [(7, .int (fo_pk v1 v2 v3 v4 v5 (nI k))), (0, .ref q), (1, .int v1), (2, .int v2), (3, .int v3), (4, .int v4), (5, .int v5), (6, .int (nI k))]) hx hb dF_feed_71 hl (by decide) rfl (fun ls hl => ?_)
            refine lv_aload_n hx hb dF_feed_73 rfl (lv_at hl 1 rfl) ?_
            refine va_get (D := D) (ci := 7) (v := .ref b13) (C := "UnitRoomModel") (T := TF) (N := 18) hx hb hts inF hown hV (ur_one hI.1 fq3) 0 rfl rfl 15 (by decide) (hts _ mw592) (fun _ h9 => h9) rfl dF_feed_74 ?_
            refine lv_aload_n hx hb dF_feed_77 rfl (lv_at hl 1 rfl) ?_
            refine va_get (D := D) (ci := 7) (v := .int (nI (n + k))) (C := "UnitRoomModel") (T := TF) (N := 18) hx hb hts inF hown hV (ur_one hI.1 fq3) 0 rfl rfl 16 (by decide) (hts _ mw593) (fun _ h9 => h9) rfl dF_feed_78 ?_
            refine lv_iload hx hb dF_feed_81 (lv_at hl 0 rfl) ?_
            refine lv_bipush (v := 24) hx hb dF_feed_83 (by decide) ?_
            refine lv_bipush (v := 8) hx hb dF_feed_85 (by decide) ?_
            refine lv_iload hx hb dF_feed_87 (lv_at hl 7 rfl) ?_
            refine lv_iconst (v := 4) hx hb dF_feed_89 (by decide) ?_
            refine lv_irem hx hb dF_feed_90 (by decide) ?_
            refine lv_imul hx hb dF_feed_91 ?_
            refine lv_isub hx hb dF_feed_92 ?_
            refine lv_ishr hx hb dF_feed_93 ?_
            refine lv_sipush (v := 255) hx hb dF_feed_94 (by decide) ?_
            refine lv_iand hx hb dF_feed_97 ?_
            refine ur_iast hx hb hV hI 0 fq4 rfl (vp_in_nI (by omega) (by decide)) dF_feed_98 (fun H locs hI => ?_)
            obtain ⟨h28, eh28⟩ : ∃ z : ur_M, z = va_up hn2 b13 (some (.inl (E.1 0, 400, .inl (upd (fo_fdF g_tape n v1 v2 v3 v4 v5 k) (Int32.toNatClampNeg (nI (n + k))) (((fo_pk v1 v2 v3 v4 v5 (nI k)) >>> ((24 - (8 * ((nI k) - (nI k) / 4 * 4))) &&& 31)) &&& 255))))) := ⟨_, rfl⟩
            replace hI : ur_I D vwCl (ur_A h s.heap.size) s.heap h28 H locs := by rw [eh28]; exact hI
            have fq29 : h28 q = some (.inr (7, [.ref b1, .ref b2, .ref b3, .long ti, .ref b4, .ref b5, .ref b6, .ref b7, .int ops, .ref b8, .int cds, .ref b9, .ref b10, .ref b11, .ref b12, .ref b13, .int (nI (n + k)), .ref b14])) := by rw [eh28]; exact ((va_up_ne _ _ (Ne.symm hne)).trans fq3)
            have fq30 : h28 b13 = some (.inl (E.1 0, 400, .inl (upd (fo_fdF g_tape n v1 v2 v3 v4 v5 k) (Int32.toNatClampNeg (nI (n + k))) (((fo_pk v1 v2 v3 v4 v5 (nI k)) >>> ((24 - (8 * ((nI k) - (nI k) / 4 * 4))) &&& 31)) &&& 255)))) := by rw [eh28]; exact (va_up_self _ _ _)
            refine lv_aload_n hx hb dF_feed_99 rfl (lv_at hl 1 rfl) ?_
            refine lv_dup hx hb dF_feed_100 rfl ?_
            refine va_get (D := D) (ci := 7) (v := .int (nI (n + k))) (C := "UnitRoomModel") (T := TF) (N := 18) hx hb hts inF hown hV (ur_one hI.1 fq29) 0 rfl rfl 16 (by decide) (hts _ mw593) (fun _ h9 => h9) rfl dF_feed_101 ?_
            refine lv_iconst (v := 1) hx hb dF_feed_104 (by decide) ?_
            refine lv_iadd hx hb dF_feed_105 ?_
            refine ur_put (D := D) (ci := 7) (v := .int ((nI (n + k)) + 1)) (ty := .int) (C := "UnitRoomModel") (T := TF) (N := 18) hx hb hts inF tyF tyF_ok nmF hown hV hI fq29 rfl 16 (by decide) (hts _ mw593) (fun _ h9 => h9) rfl (by decide +kernel) rfl rfl (Nat.le_of_ble_eq_true rfl) dF_feed_106 (fun H locs hI => ?_)
            obtain ⟨h31, eh31⟩ : ∃ z : ur_M, z = va_up h28 q (some (.inr (7, [.ref b1, .ref b2, .ref b3, .long ti, .ref b4, .ref b5, .ref b6, .ref b7, .int ops, .ref b8, .int cds, .ref b9, .ref b10, .ref b11, .ref b12, .ref b13, .int ((nI (n + k)) + 1), .ref b14]))) := ⟨_, rfl⟩
            replace hI : ur_I D vwCl (ur_A h s.heap.size) s.heap h31 H locs := by rw [eh31]; exact hI
            have fq32 : h31 q = some (.inr (7, [.ref b1, .ref b2, .ref b3, .long ti, .ref b4, .ref b5, .ref b6, .ref b7, .int ops, .ref b8, .int cds, .ref b9, .ref b10, .ref b11, .ref b12, .ref b13, .int ((nI (n + k)) + 1), .ref b14])) := by rw [eh31]; exact (va_up_self _ _ _)
            have fq33 : h31 b13 = some (.inl (E.1 0, 400, .inl (upd (fo_fdF g_tape n v1 v2 v3 v4 v5 k) (Int32.toNatClampNeg (nI (n + k))) (((fo_pk v1 v2 v3 v4 v5 (nI k)) >>> ((24 - (8 * ((nI k) - (nI k) / 4 * 4))) &&& 31)) &&& 255)))) := by rw [eh31]; exact ((va_up_ne _ _ hne).trans fq30)
            refine lv_iinc (v := ((nI k) + 1)) (lv' := [(6, .int ((nI k) + 1)), (7, .int (fo_pk v1 v2 v3 v4 v5 (nI k))), (0, .ref q), (1, .int v1), (2, .int v2), (3, .int v3), (4, .int v4), (5, .int v5)]) hx hb dF_feed_109 hl (k := 7) rfl rfl (by decide) rfl (fun ls hl => ?_)
            refine lv_goto (tgt := 18) hx hb dF_feed_112 (by decide) ?_
            rw [nI_1] at hl
            exact ihn2 (k + 1) h31 H locs ls (by omega) hlt (by rw [eh31, eh28, ehn2, ur_alt hne, nI_clamp (show n + k < 2 ^ 31 by omega), nI_1]; rfl) hI (lv_sub hl [2, 3, 4, 5, 6, 7, 0] rfl)
        · refine lv_iload_n hx hb dF_feed_31 rfl (lv_at hl 1 rfl) ?_
          refine lv_goto (tgt := 71) hx hb dF_feed_32 (by decide) ?_
          refine lv_topi (fun x9 ex9 => ?_)
          replace ex9 : x9 = fo_pk v1 v2 v3 v4 v5 (nI k) := by rw [ex9]; unfold fo_pk; rw [if_neg c6]
          subst ex9
          refine lv_istore (lv' := [(7, .int (fo_pk v1 v2 v3 v4 v5 (nI k))), (0, .ref q), (1, .int v1), (2, .int v2), (3, .int v3), (4, .int v4), (5, .int v5), (6, .int (nI k))]) hx hb dF_feed_71 hl (by decide) rfl (fun ls hl => ?_)
          refine lv_aload_n hx hb dF_feed_73 rfl (lv_at hl 1 rfl) ?_
          refine va_get (D := D) (ci := 7) (v := .ref b13) (C := "UnitRoomModel") (T := TF) (N := 18) hx hb hts inF hown hV (ur_one hI.1 fq3) 0 rfl rfl 15 (by decide) (hts _ mw592) (fun _ h9 => h9) rfl dF_feed_74 ?_
          refine lv_aload_n hx hb dF_feed_77 rfl (lv_at hl 1 rfl) ?_
          refine va_get (D := D) (ci := 7) (v := .int (nI (n + k))) (C := "UnitRoomModel") (T := TF) (N := 18) hx hb hts inF hown hV (ur_one hI.1 fq3) 0 rfl rfl 16 (by decide) (hts _ mw593) (fun _ h9 => h9) rfl dF_feed_78 ?_
          refine lv_iload hx hb dF_feed_81 (lv_at hl 0 rfl) ?_
          refine lv_bipush (v := 24) hx hb dF_feed_83 (by decide) ?_
          refine lv_bipush (v := 8) hx hb dF_feed_85 (by decide) ?_
          refine lv_iload hx hb dF_feed_87 (lv_at hl 7 rfl) ?_
          refine lv_iconst (v := 4) hx hb dF_feed_89 (by decide) ?_
          refine lv_irem hx hb dF_feed_90 (by decide) ?_
          refine lv_imul hx hb dF_feed_91 ?_
          refine lv_isub hx hb dF_feed_92 ?_
          refine lv_ishr hx hb dF_feed_93 ?_
          refine lv_sipush (v := 255) hx hb dF_feed_94 (by decide) ?_
          refine lv_iand hx hb dF_feed_97 ?_
          refine ur_iast hx hb hV hI 0 fq4 rfl (vp_in_nI (by omega) (by decide)) dF_feed_98 (fun H locs hI => ?_)
          obtain ⟨h34, eh34⟩ : ∃ z : ur_M, z = va_up hn2 b13 (some (.inl (E.1 0, 400, .inl (upd (fo_fdF g_tape n v1 v2 v3 v4 v5 k) (Int32.toNatClampNeg (nI (n + k))) (((fo_pk v1 v2 v3 v4 v5 (nI k)) >>> ((24 - (8 * ((nI k) - (nI k) / 4 * 4))) &&& 31)) &&& 255))))) := ⟨_, rfl⟩
          replace hI : ur_I D vwCl (ur_A h s.heap.size) s.heap h34 H locs := by rw [eh34]; exact hI
          have fq35 : h34 q = some (.inr (7, [.ref b1, .ref b2, .ref b3, .long ti, .ref b4, .ref b5, .ref b6, .ref b7, .int ops, .ref b8, .int cds, .ref b9, .ref b10, .ref b11, .ref b12, .ref b13, .int (nI (n + k)), .ref b14])) := by rw [eh34]; exact ((va_up_ne _ _ (Ne.symm hne)).trans fq3)
          have fq36 : h34 b13 = some (.inl (E.1 0, 400, .inl (upd (fo_fdF g_tape n v1 v2 v3 v4 v5 k) (Int32.toNatClampNeg (nI (n + k))) (((fo_pk v1 v2 v3 v4 v5 (nI k)) >>> ((24 - (8 * ((nI k) - (nI k) / 4 * 4))) &&& 31)) &&& 255)))) := by rw [eh34]; exact (va_up_self _ _ _)
          refine lv_aload_n hx hb dF_feed_99 rfl (lv_at hl 1 rfl) ?_
          refine lv_dup hx hb dF_feed_100 rfl ?_
          refine va_get (D := D) (ci := 7) (v := .int (nI (n + k))) (C := "UnitRoomModel") (T := TF) (N := 18) hx hb hts inF hown hV (ur_one hI.1 fq35) 0 rfl rfl 16 (by decide) (hts _ mw593) (fun _ h9 => h9) rfl dF_feed_101 ?_
          refine lv_iconst (v := 1) hx hb dF_feed_104 (by decide) ?_
          refine lv_iadd hx hb dF_feed_105 ?_
          refine ur_put (D := D) (ci := 7) (v := .int ((nI (n + k)) + 1)) (ty := .int) (C := "UnitRoomModel") (T := TF) (N := 18) hx hb hts inF tyF tyF_ok nmF hown hV hI fq35 rfl 16 (by decide) (hts _ mw593) (fun _ h9 => h9) rfl (by decide +kernel) rfl rfl (Nat.le_of_ble_eq_true rfl) dF_feed_106 (fun H locs hI => ?_)
          obtain ⟨h37, eh37⟩ : ∃ z : ur_M, z = va_up h34 q (some (.inr (7, [.ref b1, .ref b2, .ref b3, .long ti, .ref b4, .ref b5, .ref b6, .ref b7, .int ops, .ref b8, .int cds, .ref b9, .ref b10, .ref b11, .ref b12, .ref b13, .int ((nI (n + k)) + 1), .ref b14]))) := ⟨_, rfl⟩
          replace hI : ur_I D vwCl (ur_A h s.heap.size) s.heap h37 H locs := by rw [eh37]; exact hI
          have fq38 : h37 q = some (.inr (7, [.ref b1, .ref b2, .ref b3, .long ti, .ref b4, .ref b5, .ref b6, .ref b7, .int ops, .ref b8, .int cds, .ref b9, .ref b10, .ref b11, .ref b12, .ref b13, .int ((nI (n + k)) + 1), .ref b14])) := by rw [eh37]; exact (va_up_self _ _ _)
          have fq39 : h37 b13 = some (.inl (E.1 0, 400, .inl (upd (fo_fdF g_tape n v1 v2 v3 v4 v5 k) (Int32.toNatClampNeg (nI (n + k))) (((fo_pk v1 v2 v3 v4 v5 (nI k)) >>> ((24 - (8 * ((nI k) - (nI k) / 4 * 4))) &&& 31)) &&& 255)))) := by rw [eh37]; exact ((va_up_ne _ _ hne).trans fq36)
          refine lv_iinc (v := ((nI k) + 1)) (lv' := [(6, .int ((nI k) + 1)), (7, .int (fo_pk v1 v2 v3 v4 v5 (nI k))), (0, .ref q), (1, .int v1), (2, .int v2), (3, .int v3), (4, .int v4), (5, .int v5)]) hx hb dF_feed_109 hl (k := 7) rfl rfl (by decide) rfl (fun ls hl => ?_)
          refine lv_goto (tgt := 18) hx hb dF_feed_112 (by decide) ?_
          rw [nI_1] at hl
          exact ihn2 (k + 1) h37 H locs ls (by omega) hlt (by rw [eh37, eh34, ehn2, ur_alt hne, nI_clamp (show n + k < 2 ^ 31 by omega), nI_1]; rfl) hI (lv_sub hl [2, 3, 4, 5, 6, 7, 0] rfl)
  exact lpn2 _ 0 h _ _ ls (Nat.lt_succ_self _) (by decide) ((by rw [show fo_fdF g_tape n v1 v2 v3 v4 v5 0 = g_tape from rfl, ur_same f1]; exact (ur_same f0).symm)) hI (lv_sub hl [1, 2, 3, 4, 5, 6, 0] rfl)
abbrev rmkF_feedF : Room := { frames := 0, cells := 0, slots := 0, locals := 0 }
set_option maxHeartbeats 4000000 in
set_option maxRecDepth 100000 in
theorem kF_feedF (l : Launch) (D : va_G) (E : ur_Ev) (h : ur_M) (q : Nat) (b1 : Nat) (b2 : Nat) (b3 : Nat) (b4 : Nat) (b5 : Nat) (b6 : Nat) (b7 : Nat) (b8 : Nat) (b9 : Nat) (b10 : Nat) (b11 : Nat) (b12 : Nat) (b13 : Nat) (b14 : Nat) (ti : Int64) (ops : Int32) (cds : Int32) (n : Nat) (v1 : Int32) (v2 : Int32) (v3 : Int32) (v4 : Int32) (v5 : Int32) (g_tape : Nat → Int32) (f0 : h q = some (.inr (7, [.ref b1, .ref b2, .ref b3, .long ti, .ref b4, .ref b5, .ref b6, .ref b7, .int ops, .ref b8, .int cds, .ref b9, .ref b10, .ref b11, .ref b12, .ref b13, .int (nI n), .ref b14]))) (f1 : h b13 = some (.inl (E.1 0, 400, .inl g_tape))) (hn : 380 < n) (hn4 : n ≤ 400) : ur_Mi l yF_feed wsF_feed rmkF_feedF D vwCl (ur_v E) [.ref q, .int v1, .int v2, .int v3, .int v4, .int v5] h (fun r h2 => r = um_b (false) ∧ h2 = h) 0 0 := by
  intro sz
  refine ur_of (cc := cF_feed) (maxL := 8) (ret := (some .boolean)) (by decide) rfl (Nat.le_of_ble_eq_true rfl) ?_
  intro p e s m args below meth c ls Q hsz hx hb hml hr hlocks hnm hown hts hO hK hI hQ hl
  subst hsz
  have hV := hK.1
  have hts : ∀ w ∈ ur_G, w.before args s = true := fun w hw => hts w (List.mem_cons_of_mem _ hw)
  have hZ : ur_Z E (ur_A h s.heap.size) s s.heap := hO.1
  have hown : s.vm.findClass "UnitRoomModel" = some m.cls := hown
  have hl : lv_has ls 8 [(0, .ref q), (1, .int v1), (2, .int v2), (3, .int v3), (4, .int v4), (5, .int v5)] := hl
  refine lv_aload_n hx hb dF_feed_0 rfl (lv_at hl 0 rfl) ?_
  refine va_get (D := D) (ci := 7) (v := .int (nI n)) (C := "UnitRoomModel") (T := TF) (N := 18) hx hb hts inF hown hV (ur_one hI.1 f0) 0 rfl rfl 16 (by decide) (hts _ mw593) (fun _ h9 => h9) rfl dF_feed_1 ?_
  refine lv_bipush (v := 20) hx hb dF_feed_4 (by decide) ?_
  refine lv_iadd hx hb dF_feed_6 ?_
  refine lv_sipush (v := 400) hx hb dF_feed_7 (by decide) ?_
  refine lv_icmp_le (tgt := 15) hx hb dF_feed_10 (by decide) (fun c1 => absurd c1 (fun z9 => absurd ((fo_20 hn4).mp z9) (by omega))) (fun c1 => ?_)
  refine lv_iconst (v := 0) hx hb dF_feed_13 (by decide) ?_
  exact ur_rz hx hb hr hlocks hI hQ rfl ⟨(by first | (simp only [c1, ↓reduceIte]; done) | (simp only [c1, ↓reduceIte]; rfl) | rfl), rfl⟩ dF_feed_14
