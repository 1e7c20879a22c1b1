theorem ur_castD {E : ur_Ev} {s : State} (hX : ur_X E s) {C : String} (hC : (C, "UnitRoom$Device") ∈ ur_nC) : ∀ comp c0 : ClassId, s.vm.findClass "UnitRoom$Device" = some comp → s.vm.findClass C = some c0 → s.vm.assignable c0 comp = true := by
  intro comp c0 h1 h2
  obtain ⟨a, b, f1, f2, f3⟩ := Cond.castable_spec (va_Nw.use (A := #[]) rfl (hX.2.2.1 _ hC))
  cases h1.symm.trans f2
  cases h2.symm.trans f1
  exact f3
theorem ur_compD {E : ur_Ev} {s : State} (hX : ur_X E s) : ∀ comp : ClassId, s.vm.findClass "UnitRoom$Device" = some comp → ∃ kc : Class, s.vm.classes[comp]? = some kc := by
  intro comp h1
  obtain ⟨c2, k, f1, f2⟩ := hX.2.2.2.2.2.2.2.1
  cases h1.symm.trans f1
  exact ⟨k, f2⟩
theorem dB_wordAt_0 : decode cB_wordAt 0 = .ok (.iload_n 1, 1) := by decide +kernel
theorem dB_wordAt_1 : decode cB_wordAt 1 = .ok (.ifCond .lt 22, 3) := by decide +kernel
theorem dB_wordAt_4 : decode cB_wordAt 4 = .ok (.iload_n 1, 1) := by decide +kernel
theorem dB_wordAt_5 : decode cB_wordAt 5 = .ok (.aload_n 0, 1) := by decide +kernel
theorem dB_wordAt_6 : decode cB_wordAt 6 = .ok (.getfield 13, 3) := by decide +kernel
theorem dB_wordAt_9 : decode cB_wordAt 9 = .ok (.arraylength, 1) := by decide +kernel
theorem dB_wordAt_10 : decode cB_wordAt 10 = .ok (.if_icmp .ge 13, 3) := by decide +kernel
theorem dB_wordAt_13 : decode cB_wordAt 13 = .ok (.iload_n 2, 1) := by decide +kernel
theorem dB_wordAt_14 : decode cB_wordAt 14 = .ok (.ifCond .lt 9, 3) := by decide +kernel
theorem dB_wordAt_17 : decode cB_wordAt 17 = .ok (.iload_n 2, 1) := by decide +kernel
theorem dB_wordAt_18 : decode cB_wordAt 18 = .ok (.bipush 100, 2) := by decide +kernel
theorem dB_wordAt_20 : decode cB_wordAt 20 = .ok (.if_icmp .lt 6, 3) := by decide +kernel
theorem dB_wordAt_23 : decode cB_wordAt 23 = .ok (.ldc 17, 2) := by decide +kernel
theorem dB_wordAt_25 : decode cB_wordAt 25 = .ok (.ireturn, 1) := by decide +kernel
theorem dB_wordAt_26 : decode cB_wordAt 26 = .ok (.aload_n 0, 1) := by decide +kernel
theorem dB_wordAt_27 : decode cB_wordAt 27 = .ok (.getfield 13, 3) := by decide +kernel
theorem dB_wordAt_30 : decode cB_wordAt 30 = .ok (.iload_n 1, 1) := by decide +kernel
theorem dB_wordAt_31 : decode cB_wordAt 31 = .ok (.aaload, 1) := by decide +kernel
theorem dB_wordAt_32 : decode cB_wordAt 32 = .ok (.astore_n 3, 1) := by decide +kernel
theorem dB_wordAt_33 : decode cB_wordAt 33 = .ok (.aload_n 3, 1) := by decide +kernel
theorem dB_wordAt_34 : decode cB_wordAt 34 = .ok (.ifnull 9, 3) := by decide +kernel
theorem dB_wordAt_37 : decode cB_wordAt 37 = .ok (.iload_n 2, 1) := by decide +kernel
theorem dB_wordAt_38 : decode cB_wordAt 38 = .ok (.aload_n 3, 1) := by decide +kernel
theorem dB_wordAt_39 : decode cB_wordAt 39 = .ok (.arraylength, 1) := by decide +kernel
theorem dB_wordAt_40 : decode cB_wordAt 40 = .ok (.if_icmp .lt 7, 3) := by decide +kernel
theorem dB_wordAt_43 : decode cB_wordAt 43 = .ok (.iconst 0, 1) := by decide +kernel
theorem dB_wordAt_44 : decode cB_wordAt 44 = .ok (.goto 6, 3) := by decide +kernel
theorem dB_wordAt_47 : decode cB_wordAt 47 = .ok (.aload_n 3, 1) := by decide +kernel
theorem dB_wordAt_48 : decode cB_wordAt 48 = .ok (.iload_n 2, 1) := by decide +kernel
theorem dB_wordAt_49 : decode cB_wordAt 49 = .ok (.iaload, 1) := by decide +kernel
theorem dB_wordAt_50 : decode cB_wordAt 50 = .ok (.ireturn, 1) := by decide +kernel
abbrev rmkB_wordAt_T : Room := { frames := 0, cells := 0, slots := 0, locals := 0 }
set_option maxHeartbeats 4000000 in
set_option maxRecDepth 100000 in
theorem kB_wordAt_T (l : Launch) (D : va_G) (E : ur_Ev) (h : ur_M) (q : Nat) (qb : Nat) (ql : Nat) (du : Int32) (br : Int32) (tu : Int32) (ta : Int32) (ps : Int32) (fa : Int64) (f : Nat → Option Nat) (R : Nat → Nat → Int32) (b : Int32) (i : Int32) (f0 : h q = some (.inr (3, [.int 100, .ref qb, .int du, .long fa, .int br, .int tu, .int ta, .int ps, .ref ql]))) (f1 : h ql = some (.inl (E.1 3, 64, .inr (.inr (.inr (.inr f)))))) (hrow : um_rowsAt E h f R) : ur_Mi l yB_wordAt wsB_wordAt rmkB_wordAt_T D vwCl (ur_v E) [.ref q, .int b, .int i] h (fun r h2 => r = um_wordAt R b i ∧ h2 = h) 0 0 := by
  intro sz
  refine ur_of (cc := cB_wordAt) (maxL := 4) (ret := (some .int)) (by decide) rfl (Nat.le_of_ble_eq_true rfl) ?_
  intro p e s m args below meth c ls Q hsz hx hb hml hr hlocks hnm hown hts hO hK hI hQ hl
  subst hsz
  have hV := hK.1
  have hts : ∀ w ∈ ur_G, w.before args s = true := fun w hw => hts w (List.mem_cons_of_mem _ hw)
  have hZ : ur_Z E (ur_A h s.heap.size) s s.heap := hO.1
  have hown : s.vm.findClass "UnitRoom$BlockDevice" = some m.cls := hown
  have hl : lv_has ls 4 [(0, .ref q), (1, .int b), (2, .int i)] := hl
  refine lv_iload_n hx hb dB_wordAt_0 rfl (lv_at hl 1 rfl) ?_
  refine lv_if_lt (tgt := 23) hx hb dB_wordAt_1 (by decide) (fun c1 => ?_) (fun c1 => ?_)
  · refine lv_ldc (v := 2147483647) hx hb hown (hts _ mw326) dB_wordAt_23 ?_
    exact ur_ri hx hb hr hlocks hI hQ ⟨(by simp only [um_wordAt, c1, ↓reduceIte]), rfl⟩ dB_wordAt_25
  · refine lv_iload_n hx hb dB_wordAt_4 rfl (lv_at hl 1 rfl) ?_
    refine lv_aload_n hx hb dB_wordAt_5 rfl (lv_at hl 0 rfl) ?_
    refine va_get (D := D) (ci := 3) (v := .ref ql) (C := "UnitRoom$Tape") (T := TT) (N := 9) hx hb hts inT hown hV (ur_one hI.1 f0) 0 rfl rfl 8 (by decide) (hts _ mw117) (fun _ h9 => h9) rfl dB_wordAt_6 ?_
    refine va_alen (v := 64) hx hb hV (ur_one hI.1 f1) 0 3 rfl rfl rfl dB_wordAt_9 ?_
    refine lv_icmp_ge (tgt := 23) hx hb dB_wordAt_10 (by decide) (fun c2 => ?_) (fun c2 => ?_)
    · refine lv_ldc (v := 2147483647) hx hb hown (hts _ mw326) dB_wordAt_23 ?_
      exact ur_ri hx hb hr hlocks hI hQ ⟨(by simp only [um_wordAt, c1, c2, ↓reduceIte]), rfl⟩ dB_wordAt_25
    · refine lv_iload_n hx hb dB_wordAt_13 rfl (lv_at hl 2 rfl) ?_
      refine lv_if_lt (tgt := 23) hx hb dB_wordAt_14 (by decide) (fun c3 => ?_) (fun c3 => ?_)
      · refine lv_ldc (v := 2147483647) hx hb hown (hts _ mw326) dB_wordAt_23 ?_
        exact ur_ri hx hb hr hlocks hI hQ ⟨(by simp only [um_wordAt, c1, c2, c3, ↓reduceIte]), rfl⟩ dB_wordAt_25
      · refine lv_iload_n hx hb dB_wordAt_17 rfl (lv_at hl 2 rfl) ?_
        refine lv_bipush (v := 100) hx hb dB_wordAt_18 (by decide) ?_
        refine lv_icmp_lt (tgt := 26) hx hb dB_wordAt_20 (by decide) (fun c4 => ?_) (fun c4 => ?_)
        · refine lv_aload_n hx hb dB_wordAt_26 rfl (lv_at hl 0 rfl) ?_
          refine va_get (D := D) (ci := 3) (v := .ref ql) (C := "UnitRoom$Tape") (T := TT) (N := 9) hx hb hts inT hown hV (ur_one hI.1 f0) 0 rfl rfl 8 (by decide) (hts _ mw117) (fun _ h9 => h9) rfl dB_wordAt_27 ?_
          refine lv_iload_n hx hb dB_wordAt_30 rfl (lv_at hl 1 rfl) ?_
          refine ur_aldA hx hb hV hI 3 f1 rfl rfl (um_in' c1 c2 (by decide)) dB_wordAt_31 ?_
          refine ur_asn (lv' := [(3, va_rf (f b.toNatClampNeg)), (0, .ref q), (1, .int b), (2, .int i)]) hx hb dB_wordAt_32 rfl hl (by decide) rfl (fun ls hl => ?_)
          refine ur_aln hx hb dB_wordAt_33 rfl (lv_at hl 0 rfl) ?_
          refine ur_ifn (tgt := 43) hx hb dB_wordAt_34 (by decide) (fun c5 => ?_) (fun a6 c5 => ?_)
          · rw [c5] at hl
            have hb9 : b.toNatClampNeg < 64 := um_lt c1 c2 (by decide)
            refine lv_iconst (v := 0) hx hb dB_wordAt_43 (by decide) ?_
            refine lv_goto (tgt := 50) hx hb dB_wordAt_44 (by decide) ?_
            exact ur_ri hx hb hr hlocks hI hQ ⟨(by simp only [um_wordAt, c1, c2, c3, c4, ↓reduceIte]; rw [hrow.2 _ hb9 c5]), rfl⟩ dB_wordAt_50
          · rw [c5] at hl
            have hb9 : b.toNatClampNeg < 64 := um_lt c1 c2 (by decide)
            have fr : h a6 = some (.inl (E.1 0, 100, .inl (R b.toNatClampNeg))) := hrow.1 _ hb9 _ c5
            refine lv_iload_n hx hb dB_wordAt_37 rfl (lv_at hl 3 rfl) ?_
            refine lv_aload_n hx hb dB_wordAt_38 rfl (lv_at hl 0 rfl) ?_
            refine va_alen (v := 100) hx hb hV (ur_one hI.1 fr) 0 0 rfl rfl rfl dB_wordAt_39 ?_
            refine lv_icmp_lt (tgt := 47) hx hb dB_wordAt_40 (by decide) (fun c7 => ?_) (fun c7 => absurd c7 (not_not_intro c4))
            refine lv_aload_n hx hb dB_wordAt_47 rfl (lv_at hl 0 rfl) ?_
            refine lv_iload_n hx hb dB_wordAt_48 rfl (lv_at hl 3 rfl) ?_
            refine va_iald hx hb hV (ur_one hI.1 fr) 0 0 rfl rfl (um_in c3 c4 (by decide)) dB_wordAt_49 ?_
            exact ur_ri hx hb hr hlocks hI hQ ⟨(by simp only [um_wordAt, c1, c2, c3, c4, ↓reduceIte]), rfl⟩ dB_wordAt_50
        · refine lv_ldc (v := 2147483647) hx hb hown (hts _ mw326) dB_wordAt_23 ?_
          exact ur_ri hx hb hr hlocks hI hQ ⟨(by simp only [um_wordAt, c1, c2, c3, c4, ↓reduceIte]), rfl⟩ dB_wordAt_25
theorem dB_readBlock_0 : decode cB_readBlock 0 = .ok (.iconst 0, 1) := by decide +kernel
theorem dB_readBlock_1 : decode cB_readBlock 1 = .ok (.istore_n 3, 1) := by decide +kernel
theorem dB_readBlock_2 : decode cB_readBlock 2 = .ok (.iload_n 3, 1) := by decide +kernel
theorem dB_readBlock_3 : decode cB_readBlock 3 = .ok (.aload_n 0, 1) := by decide +kernel
theorem dB_readBlock_4 : decode cB_readBlock 4 = .ok (.getfield 18, 3) := by decide +kernel
theorem dB_readBlock_7 : decode cB_readBlock 7 = .ok (.arraylength, 1) := by decide +kernel
theorem dB_readBlock_8 : decode cB_readBlock 8 = .ok (.if_icmp .ge 21, 3) := by decide +kernel
theorem dB_readBlock_11 : decode cB_readBlock 11 = .ok (.aload_n 0, 1) := by decide +kernel
theorem dB_readBlock_12 : decode cB_readBlock 12 = .ok (.getfield 18, 3) := by decide +kernel
theorem dB_readBlock_15 : decode cB_readBlock 15 = .ok (.iload_n 3, 1) := by decide +kernel
theorem dB_readBlock_16 : decode cB_readBlock 16 = .ok (.aload_n 0, 1) := by decide +kernel
theorem dB_readBlock_17 : decode cB_readBlock 17 = .ok (.iload_n 1, 1) := by decide +kernel
theorem dB_readBlock_18 : decode cB_readBlock 18 = .ok (.iload_n 3, 1) := by decide +kernel
theorem dB_readBlock_19 : decode cB_readBlock 19 = .ok (.invokevirtual 21, 3) := by decide +kernel
theorem dB_readBlock_22 : decode cB_readBlock 22 = .ok (.iastore, 1) := by decide +kernel
theorem dB_readBlock_23 : decode cB_readBlock 23 = .ok (.iinc 3 1, 3) := by decide +kernel
theorem dB_readBlock_26 : decode cB_readBlock 26 = .ok (.goto (-24), 3) := by decide +kernel
theorem dB_readBlock_29 : decode cB_readBlock 29 = .ok (.aload_n 0, 1) := by decide +kernel
theorem dB_readBlock_30 : decode cB_readBlock 30 = .ok (.iload_n 2, 1) := by decide +kernel
theorem dB_readBlock_31 : decode cB_readBlock 31 = .ok (.invokevirtual 25, 3) := by decide +kernel
theorem dB_readBlock_34 : decode cB_readBlock 34 = .ok (.return_, 1) := by decide +kernel
abbrev rmkB_read_T : Room := { frames := 1, cells := 0, slots := 0, locals := 23 }
set_option maxHeartbeats 4000000 in
set_option maxRecDepth 100000 in
theorem kB_read_T (l : Launch) (D : va_G) (E : ur_Ev) (h : ur_M) (q : Nat) (qb : Nat) (ql : Nat) (du : Int32) (br : Int32) (tu : Int32) (ta : Int32) (ps : Int32) (fa : Int64) (f : Nat → Option Nat) (R : Nat → Nat → Int32) (o : Nat → Int32) (b : Int32) (a : Int32) (f0 : h q = some (.inr (3, [.int 100, .ref qb, .int du, .long fa, .int br, .int tu, .int ta, .int ps, .ref ql]))) (f1 : h ql = some (.inl (E.1 3, 64, .inr (.inr (.inr (.inr f)))))) (f2 : h qb = some (.inl (E.1 0, 100, .inl o))) (hrow : um_rowsAt E h f R) (hrb : ∀ j, j < 64 → f j ≠ some qb) : ur_Mv l yB_readBlock wsB_readBlock rmkB_read_T D vwCl (ur_v E) [.ref q, .int b, .int a] h (fun h2 => h2 = va_up (va_up h qb (some (.inl (E.1 0, 100, .inl (um_bring R b o 100))))) q (some (.inr (3, [.int 100, .ref qb, .int du, .long fa, .int 1, .int tu, .int a, .int ps, .ref ql])))) 0 0 := by
  intro sz
  refine ur_of (cc := cB_readBlock) (maxL := 4) (ret := none) (by decide) rfl (Nat.le_of_ble_eq_true rfl) ?_
  intro p e s m args below meth c ls Q hsz hx hb hml hr hlocks hnm hown hts hO hK hI hQ hl
  subst hsz
  have hV := hK.1
  have hts : ∀ w ∈ ur_G, w.before args s = true := fun w hw => hts w (List.mem_cons_of_mem _ hw)
  have hZ : ur_Z E (ur_A h s.heap.size) s s.heap := hO.1
  have hown : s.vm.findClass "UnitRoom$BlockDevice" = some m.cls := hown
  have hl : lv_has ls 4 [(0, .ref q), (1, .int b), (2, .int a)] := hl
  refine lv_iconst (v := 0) hx hb dB_readBlock_0 (by decide) ?_
  refine lv_istore_n (lv' := [(3, .int 0), (0, .ref q), (1, .int b), (2, .int a)]) hx hb dB_readBlock_1 rfl hl (by decide) rfl (fun ls hl => ?_)
  have lpn1 : ∀ (n1 : Nat) (i : Nat) (hn1 : ur_M) (H : Heap) (locs : List Loc) (ls : Array Slot), 100 - i < n1 → (i ≤ 100) → hn1 = va_up h qb (some (.inl (E.1 0, 100, .inl (um_bring R b o i)))) → ur_I D vwCl (ur_A h s.heap.size) s.heap hn1 H locs → lv_has ls 4 [(0, .ref q), (1, .int b), (2, .int a), (3, .int (nI i))] → W p l e rmkB_read_T s m args below meth c H locs 0 0 Q (F0 m 2 ls []) := by
    intro n1
    induction n1 with
    | zero => intro i hn1 H locs ls hnn1; exact absurd hnn1 (Nat.not_lt_zero _)
    | succ n1 ihn1 =>
      intro i hn1 H locs ls hnn1 hi ehn1 hI hl
      have q2 : hn1 q = some (.inr (3, [.int 100, .ref qb, .int du, .long fa, .int br, .int tu, .int ta, .int ps, .ref ql])) := by rw [ehn1]; exact (va_up_ne _ _ (ur_ne f0 f2 (by intro z; simp at z))).trans f0
      have q3 : hn1 ql = some (.inl (E.1 3, 64, .inr (.inr (.inr (.inr f))))) := by rw [ehn1]; exact (va_up_ne _ _ (ur_ne f1 f2 (by intro z; simp at z))).trans f1
      have q4 : hn1 qb = some (.inl (E.1 0, 100, .inl (um_bring R b o i))) := by rw [ehn1]; exact va_up_self _ _ _
      refine lv_iload_n hx hb dB_readBlock_2 rfl (lv_at hl 3 rfl) ?_
      refine lv_aload_n hx hb dB_readBlock_3 rfl (lv_at hl 0 rfl) ?_
      refine va_get (D := D) (ci := 3) (v := .ref qb) (C := "UnitRoom$Tape") (T := TT) (N := 9) hx hb hts inT hown hV (ur_one hI.1 q2) 0 rfl rfl 1 (by decide) (hts _ mw71) (fun x9 h9 => u_same (hts _ mw72) x9 h9) rfl dB_readBlock_4 ?_
      refine va_alen (v := 100) hx hb hV (ur_one hI.1 q4) 0 0 rfl rfl rfl dB_readBlock_7 ?_
      refine lv_icmp_ge (tgt := 29) hx hb dB_readBlock_8 (by decide) (fun c5 => ?_) (fun c5 => ?_)
      · have he9 : i = 100 := Nat.le_antisymm hi (Nat.not_lt.mp (fun z9 => nI_ge z9 (by decide) c5))
        refine lv_aload_n hx hb dB_readBlock_29 rfl (lv_at hl 0 rfl) ?_
        refine lv_iload_n hx hb dB_readBlock_30 rfl (lv_at hl 2 rfl) ?_
        refine ur_xv (va_runU (As := [.int a]) (rest := []) ⟨hx, hb, hml, hown, hts⟩ (kD_bringTo l D E hn1 q 3 qb 100 du br tu ta fa ([.int ps, .ref ql]) a q2 (by unfold um_isD; decide) H.size) (va_cwU (owner := "UnitRoom$Device") 1 hts (ur_gU mw327 mw328 mw331 mw332 mw4 mw333) rfl rfl rfl rfl (by decide +kernel) ⟨(Nat.le_of_ble_eq_true rfl), (Nat.le_of_ble_eq_true rfl)⟩) ⟨ur_blind, va_recv hV (ur_one hI.1 q2) (ci := 3) (q0 := 0) rfl rfl, ur_pre hI hO hK (fun _ _ q => q)⟩ rfl rfl hl.1 rfl (lv_room (Nat.le_of_ble_eq_true rfl)) dB_readBlock_31 ⟨Nat.le_of_ble_eq_true rfl, Nat.le_of_ble_eq_true rfl⟩) hI (fun h6 H locs p6 hI => ?_)
        have eh6 := p6
        have q7 : h6 q = some (.inr (3, [.int 100, .ref qb, .int du, .long fa, .int 1, .int tu, .int a, .int ps, .ref ql])) := by rw [eh6]; exact (va_up_self _ _ _)
        have q8 : h6 ql = some (.inl (E.1 3, 64, .inr (.inr (.inr (.inr f))))) := by rw [eh6]; exact ((va_up_ne _ _ (ur_ne q3 q2 (by intro z; simp at z))).trans q3)
        have q9 : h6 qb = some (.inl (E.1 0, 100, .inl (um_bring R b o i))) := by rw [eh6]; exact ((va_up_ne _ _ (ur_ne q4 q2 (by intro z; simp at z))).trans q4)
        exact ur_rv hx hb hr hlocks hI hQ (by rw [eh6, ehn1, he9]) dB_readBlock_34
      · have hlt : i < 100 := Nat.not_le.mp (fun z9 => c5 (nI_le z9 (by omega)))
        refine lv_aload_n hx hb dB_readBlock_11 rfl (lv_at hl 0 rfl) ?_
        refine va_get (D := D) (ci := 3) (v := .ref qb) (C := "UnitRoom$Tape") (T := TT) (N := 9) hx hb hts inT hown hV (ur_one hI.1 q2) 0 rfl rfl 1 (by decide) (hts _ mw71) (fun x9 h9 => u_same (hts _ mw72) x9 h9) rfl dB_readBlock_12 ?_
        refine lv_iload_n hx hb dB_readBlock_15 rfl (lv_at hl 3 rfl) ?_
        refine lv_aload_n hx hb dB_readBlock_16 rfl (lv_at hl 0 rfl) ?_
        refine lv_iload_n hx hb dB_readBlock_17 rfl (lv_at hl 1 rfl) ?_
        refine lv_iload_n hx hb dB_readBlock_18 rfl (lv_at hl 3 rfl) ?_
        refine ur_xi (va_runU (As := [.int b, .int (nI i)]) (rest := [.int (nI i), .ref qb]) ⟨hx, hb, hml, hown, hts⟩ (kB_wordAt_T l D E hn1 q qb ql du br tu ta ps fa f R b (nI i) q2 q3 (by rw [ehn1]; exact hrow.up hrb) H.size) (va_cwU (owner := "UnitRoom$BlockDevice") 2 hts (ur_gU mw320 mw322 mw324 mw321 mw7 mw325) rfl rfl rfl rfl (by decide +kernel) ⟨(Nat.le_of_ble_eq_true rfl), (Nat.le_of_ble_eq_true rfl)⟩) ⟨ur_blind, va_recv hV (ur_one hI.1 q2) (ci := 3) (q0 := 0) rfl rfl, ur_pre hI hO hK (fun _ _ q => q)⟩ rfl rfl hl.1 rfl (lv_room (Nat.le_of_ble_eq_true rfl)) dB_readBlock_19 ⟨Nat.le_of_ble_eq_true rfl, Nat.le_of_ble_eq_true rfl⟩) hI (fun r10 h10 H locs p10 hI => ?_)
        obtain ⟨er10, eh10⟩ := p10
        replace eh10 := eh10.symm; subst eh10
        replace er10 := er10.symm; subst er10
        refine ur_iast hx hb hV hI 0 q4 rfl (vp_in_nI hlt (by decide)) dB_readBlock_22 (fun H locs hI => ?_)
        obtain ⟨h11, eh11⟩ : ∃ z : ur_M, z = va_up hn1 qb (some (.inl (E.1 0, 100, .inl (upd (um_bring R b o i) (Int32.toNatClampNeg (nI i)) (um_wordAt R b (nI i)))))) := ⟨_, rfl⟩
        replace hI : ur_I D vwCl (ur_A h s.heap.size) s.heap h11 H locs := by rw [eh11]; exact hI
        have q12 : h11 q = some (.inr (3, [.int 100, .ref qb, .int du, .long fa, .int br, .int tu, .int ta, .int ps, .ref ql])) := by rw [eh11]; exact ((va_up_ne _ _ (ur_ne q2 q4 (by intro z; simp at z))).trans q2)
        have q13 : h11 ql = some (.inl (E.1 3, 64, .inr (.inr (.inr (.inr f))))) := by rw [eh11]; exact ((va_up_ne _ _ (ur_ne q3 q4 (by intro z; simp at z))).trans q3)
        have q14 : h11 qb = some (.inl (E.1 0, 100, .inl (upd (um_bring R b o i) (Int32.toNatClampNeg (nI i)) (um_wordAt R b (nI i))))) := by rw [eh11]; exact (va_up_self _ _ _)
        refine lv_iinc (v := ((nI i) + 1)) (lv' := [(3, .int ((nI i) + 1)), (0, .ref q), (1, .int b), (2, .int a)]) hx hb dB_readBlock_23 hl (k := 3) rfl rfl (by decide) rfl (fun ls hl => ?_)
        refine lv_goto (tgt := 2) hx hb dB_readBlock_26 (by decide) ?_
        rw [nI_1] at hl
        exact ihn1 (i + 1) h11 H locs ls (by omega) hlt (by rw [eh11, ehn1, bx_uu, nI_clamp (by omega), um_bring_succ]) hI (lv_sub hl [1, 2, 3, 0] rfl)
  exact lpn1 _ 0 h _ _ ls (Nat.lt_succ_self _) (by decide) ((by rw [show um_bring R b o 0 = o by funext j9; simp [um_bring]]; exact (ur_same f2).symm)) hI (lv_sub hl [1, 2, 3, 0] rfl)
theorem dB_writeBlock_0 : decode cB_writeBlock 0 = .ok (.iload_n 1, 1) := by decide +kernel
theorem dB_writeBlock_1 : decode cB_writeBlock 1 = .ok (.ifCond .lt 12, 3) := by decide +kernel
theorem dB_writeBlock_4 : decode cB_writeBlock 4 = .ok (.iload_n 1, 1) := by decide +kernel
theorem dB_writeBlock_5 : decode cB_writeBlock 5 = .ok (.aload_n 0, 1) := by decide +kernel
theorem dB_writeBlock_6 : decode cB_writeBlock 6 = .ok (.getfield 13, 3) := by decide +kernel
theorem dB_writeBlock_9 : decode cB_writeBlock 9 = .ok (.arraylength, 1) := by decide +kernel
theorem dB_writeBlock_10 : decode cB_writeBlock 10 = .ok (.if_icmp .lt 4, 3) := by decide +kernel
theorem dB_writeBlock_13 : decode cB_writeBlock 13 = .ok (.return_, 1) := by decide +kernel
theorem dB_writeBlock_14 : decode cB_writeBlock 14 = .ok (.aload_n 0, 1) := by decide +kernel
theorem dB_writeBlock_15 : decode cB_writeBlock 15 = .ok (.getfield 13, 3) := by decide +kernel
theorem dB_writeBlock_18 : decode cB_writeBlock 18 = .ok (.iload_n 1, 1) := by decide +kernel
theorem dB_writeBlock_19 : decode cB_writeBlock 19 = .ok (.aaload, 1) := by decide +kernel
theorem dB_writeBlock_20 : decode cB_writeBlock 20 = .ok (.astore 4, 2) := by decide +kernel
theorem dB_writeBlock_22 : decode cB_writeBlock 22 = .ok (.aload 4, 2) := by decide +kernel
theorem dB_writeBlock_24 : decode cB_writeBlock 24 = .ok (.ifnonnull 17, 3) := by decide +kernel
theorem dB_writeBlock_27 : decode cB_writeBlock 27 = .ok (.bipush 100, 2) := by decide +kernel
theorem dB_writeBlock_29 : decode cB_writeBlock 29 = .ok (.newarray .int, 2) := by decide +kernel
theorem dB_writeBlock_31 : decode cB_writeBlock 31 = .ok (.astore 4, 2) := by decide +kernel
theorem dB_writeBlock_33 : decode cB_writeBlock 33 = .ok (.aload_n 0, 1) := by decide +kernel
theorem dB_writeBlock_34 : decode cB_writeBlock 34 = .ok (.getfield 13, 3) := by decide +kernel
theorem dB_writeBlock_37 : decode cB_writeBlock 37 = .ok (.iload_n 1, 1) := by decide +kernel
theorem dB_writeBlock_38 : decode cB_writeBlock 38 = .ok (.aload 4, 2) := by decide +kernel
theorem dB_writeBlock_40 : decode cB_writeBlock 40 = .ok (.aastore, 1) := by decide +kernel
theorem dB_writeBlock_41 : decode cB_writeBlock 41 = .ok (.aload_n 3, 1) := by decide +kernel
theorem dB_writeBlock_42 : decode cB_writeBlock 42 = .ok (.aload 4, 2) := by decide +kernel
theorem dB_writeBlock_44 : decode cB_writeBlock 44 = .ok (.iload_n 2, 1) := by decide +kernel
theorem dB_writeBlock_45 : decode cB_writeBlock 45 = .ok (.invokevirtual 29, 3) := by decide +kernel
theorem dB_writeBlock_48 : decode cB_writeBlock 48 = .ok (.return_, 1) := by decide +kernel
abbrev rmkB_write_T : Room := { frames := 2, cells := 1, slots := 100, locals := 48 }
set_option maxHeartbeats 4000000 in
set_option maxRecDepth 100000 in
theorem kB_write_T (l : Launch) (D : va_G) (E : ur_Ev) (h : ur_M) (q : Nat) (qb : Nat) (ql : Nat) (du : Int32) (br : Int32) (tu : Int32) (ta : Int32) (ps : Int32) (fa : Int64) (qm : Nat) (q1 : Nat) (f : Nat → Option Nat) (R : Nat → Nat → Int32) (g : Nat → Int32) (b : Int32) (a : Int32) (f0 : h q = some (.inr (3, [.int 100, .ref qb, .int du, .long fa, .int br, .int tu, .int ta, .int ps, .ref ql]))) (f1 : h ql = some (.inl (E.1 3, 64, .inr (.inr (.inr (.inr f)))))) (f2 : h qm = some (.inr (1, [.ref q1]))) (f3 : h q1 = some (.inl (E.1 0, 4000, .inl g))) (hrow : um_rowsAt E h f R) (hrq : ∀ j, j < 64 → f j ≠ some q1) (hb0 : ¬ b < 0) (hb1 : b < 64) : ur_Mv l yB_writeBlock wsB_writeBlock rmkB_write_T D vwCl (ur_v E) [.ref q, .int b, .int a, .ref qm] h (fun h2 => um_wrote E h ql f b.toNatClampNeg (um_cin g (R b.toNatClampNeg) a 100) h2) 1 100 := by
  intro sz
  refine ur_of (cc := cB_writeBlock) (maxL := 5) (ret := none) (by decide) rfl (Nat.le_of_ble_eq_true rfl) ?_
  intro p e s m args below meth c ls Q hsz hx hb hml hr hlocks hnm hown hts hO hK hI hQ hl
  subst hsz
  have hV := hK.1
  have hts : ∀ w ∈ ur_G, w.before args s = true := fun w hw => hts w (List.mem_cons_of_mem _ hw)
  have hZ : ur_Z E (ur_A h s.heap.size) s s.heap := hO.1
  have hown : s.vm.findClass "UnitRoom$BlockDevice" = some m.cls := hown
  have hl : lv_has ls 5 [(0, .ref q), (1, .int b), (2, .int a), (3, .ref qm)] := hl
  refine lv_iload_n hx hb dB_writeBlock_0 rfl (lv_at hl 1 rfl) ?_
  refine lv_if_lt (tgt := 13) hx hb dB_writeBlock_1 (by decide) (fun c1 => absurd c1 hb0) (fun c1 => ?_)
  refine lv_iload_n hx hb dB_writeBlock_4 rfl (lv_at hl 1 rfl) ?_
  refine lv_aload_n hx hb dB_writeBlock_5 rfl (lv_at hl 0 rfl) ?_
  refine va_get (D := D) (ci := 3) (v := .ref ql) (C := "UnitRoom$Tape") (T := TT) (N := 9) hx hb hts inT hown hV (ur_one hI.1 f0) 0 rfl rfl 8 (by decide) (hts _ mw117) (fun _ h9 => h9) rfl dB_writeBlock_6 ?_
  refine va_alen (v := 64) hx hb hV (ur_one hI.1 f1) 0 3 rfl rfl rfl dB_writeBlock_9 ?_
  refine lv_icmp_lt (tgt := 14) hx hb dB_writeBlock_10 (by decide) (fun c2 => ?_) (fun c2 => absurd c2 (not_not_intro hb1))
  refine lv_aload_n hx hb dB_writeBlock_14 rfl (lv_at hl 0 rfl) ?_
  refine va_get (D := D) (ci := 3) (v := .ref ql) (C := "UnitRoom$Tape") (T := TT) (N := 9) hx hb hts inT hown hV (ur_one hI.1 f0) 0 rfl rfl 8 (by decide) (hts _ mw117) (fun _ h9 => h9) rfl dB_writeBlock_15 ?_
  refine lv_iload_n hx hb dB_writeBlock_18 rfl (lv_at hl 1 rfl) ?_
  refine ur_aldA hx hb hV hI 3 f1 rfl rfl (um_in hb0 hb1 (by decide)) dB_writeBlock_19 ?_
  refine ur_as (lv' := [(4, va_rf (f b.toNatClampNeg)), (0, .ref q), (1, .int b), (2, .int a), (3, .ref qm)]) hx hb dB_writeBlock_20 hl (by decide) rfl (fun ls hl => ?_)
  refine ur_al hx hb dB_writeBlock_22 (lv_at hl 0 rfl) ?_
  refine ur_ifnn (tgt := 41) hx hb dB_writeBlock_24 (by decide) (fun a4 c3 => ?_) (fun c3 => ?_)
  · rw [c3] at hl
    have hb9 : b.toNatClampNeg < 64 := um_lt2 hb0 hb1 (by decide)
    have fr : h a4 = some (.inl (E.1 0, 100, .inl (R b.toNatClampNeg))) := hrow.1 _ hb9 _ c3
    have hq9 : q1 ≠ a4 := fun z9 => hrq _ hb9 (by rw [c3, z9])
    refine lv_aload_n hx hb dB_writeBlock_41 rfl (lv_at hl 4 rfl) ?_
    refine lv_aload hx hb dB_writeBlock_42 (lv_at hl 0 rfl) ?_
    refine lv_iload_n hx hb dB_writeBlock_44 rfl (lv_at hl 3 rfl) ?_
    refine ur_xv (va_runV (As := [.ref a4, .int a]) (rest := []) ⟨hx, hb, hml, hown, hts⟩ (kM_ci l D E h qm q1 a4 g (R b.toNatClampNeg) 100 a f2 f3 fr (by first | assumption | omega | decide) hq9 s.heap.size) (cwV 2 hts (ur_gV mw340 mw341 mw342 mw2 mw343) rfl rfl rfl (by decide +kernel) ⟨(Nat.le_of_ble_eq_true rfl), (Nat.le_of_ble_eq_true rfl)⟩) ⟨ur_blind, va_recv hV (ur_one hI.1 f2) (ci := 1) (q0 := 0) rfl rfl, ur_pre hI hO hK (fun _ _ q => q)⟩ rfl rfl hl.1 rfl (lv_room (Nat.le_of_ble_eq_true rfl)) dB_writeBlock_45 ⟨Nat.le_of_ble_eq_true rfl, Nat.le_of_ble_eq_true rfl⟩) hI (fun h5 H locs p5 hI => ?_)
    have eh5 := p5
    have q6 : h5 q = some (.inr (3, [.int 100, .ref qb, .int du, .long fa, .int br, .int tu, .int ta, .int ps, .ref ql])) := by rw [eh5]; exact ((va_up_ne _ _ (ur_ne f0 fr (by intro z; simp at z))).trans f0)
    have q7 : h5 ql = some (.inl (E.1 3, 64, .inr (.inr (.inr (.inr f))))) := by rw [eh5]; exact ((va_up_ne _ _ (ur_ne f1 fr (by intro z; simp at z))).trans f1)
    have q8 : h5 qm = some (.inr (1, [.ref q1])) := by rw [eh5]; exact ((va_up_ne _ _ (ur_ne f2 fr (by intro z; simp at z))).trans f2)
    have q9 : h5 q1 = some (.inl (E.1 0, 4000, .inl g)) := by rw [eh5]; exact ((va_up_ne _ _ hq9).trans f3)
    have q10 : h5 a4 = some (.inl (E.1 0, 100, .inl (um_cin g (R b.toNatClampNeg) a 100))) := by rw [eh5]; exact (va_up_self _ _ _)
    refine W.widen (k := 1) (n := 100) (by omega) (by omega) ?_
    exact ur_rv hx hb hr hlocks hI hQ (Or.inl ⟨_, c3, eh5⟩) dB_writeBlock_48
  · rw [c3] at hl
    have hb9 : b.toNatClampNeg < 64 := um_lt2 hb0 hb1 (by decide)
    refine lv_bipush (v := 100) hx hb dB_writeBlock_27 (by decide) ?_
    refine ur_newa (atype := .int) (a0 := (100, (.inl (fun _ => 0)))) hx hb (hts _ mw36) rfl 0 hV rfl rfl hI (n := 100) (N' := 100) (fun _ => by rfl) (by decide) rfl (by decide) (Nat.le_of_ble_eq_true rfl) (Nat.le_of_ble_eq_true rfl) dB_writeBlock_29 (fun w11 H zw11 hI => ?_)
    obtain ⟨h12, eh12⟩ : ∃ z : ur_M, z = va_up h w11 (some (.inl (E.1 0, 100, .inl (fun _ => 0)))) := ⟨_, rfl⟩
    replace hI : ur_I D vwCl (ur_A h s.heap.size) s.heap h12 H [] := by rw [eh12]; exact hI
    have n14 : q ≠ w11 := ur_fresh f0 zw11
    have q13 : h12 q = some (.inr (3, [.int 100, .ref qb, .int du, .long fa, .int br, .int tu, .int ta, .int ps, .ref ql])) := by rw [eh12]; exact (va_up_ne _ _ n14).trans f0
    have n16 : ql ≠ w11 := ur_fresh f1 zw11
    have q15 : h12 ql = some (.inl (E.1 3, 64, .inr (.inr (.inr (.inr f))))) := by rw [eh12]; exact (va_up_ne _ _ n16).trans f1
    have n18 : qm ≠ w11 := ur_fresh f2 zw11
    have q17 : h12 qm = some (.inr (1, [.ref q1])) := by rw [eh12]; exact (va_up_ne _ _ n18).trans f2
    have n20 : q1 ≠ w11 := ur_fresh f3 zw11
    have q19 : h12 q1 = some (.inl (E.1 0, 4000, .inl g)) := by rw [eh12]; exact (va_up_ne _ _ n20).trans f3
    have q21 : h12 w11 = some (.inl (E.1 0, 100, .inl (fun _ => 0))) := by rw [eh12]; exact va_up_self _ _ _
    refine lv_astore (lv' := [(4, .ref w11), (0, .ref q), (1, .int b), (2, .int a), (3, .ref qm)]) hx hb dB_writeBlock_31 hl (by decide) rfl (fun ls hl => ?_)
    refine lv_aload_n hx hb dB_writeBlock_33 rfl (lv_at hl 1 rfl) ?_
    refine va_get (D := D) (ci := 3) (v := .ref ql) (C := "UnitRoom$Tape") (T := TT) (N := 9) hx hb hts inT hown hV (ur_one hI.1 q13) 0 rfl rfl 8 (by decide) (hts _ mw117) (fun _ h9 => h9) rfl dB_writeBlock_34 ?_
    refine lv_iload_n hx hb dB_writeBlock_37 rfl (lv_at hl 2 rfl) ?_
    refine lv_aload hx hb dB_writeBlock_38 (lv_at hl 0 rfl) ?_
    refine ur_astA hx hb hI q15 hK.2.1.2.2.2.2.2.1.1 hK.2.1.2.2.2.2.2.1.2 q21 (um_in hb0 hb1 (by decide)) dB_writeBlock_40 (fun H locs hI => ?_)
    obtain ⟨h22, eh22⟩ : ∃ z : ur_M, z = va_up h12 ql (some (.inl (E.1 3, 64, .inr (.inr (.inr (.inr (va_up f b.toNatClampNeg (some w11)))))))) := ⟨_, rfl⟩
    replace hI : ur_I D vwCl (ur_A h s.heap.size) s.heap h22 H locs := by rw [eh22]; exact hI
    have q23 : h22 q = some (.inr (3, [.int 100, .ref qb, .int du, .long fa, .int br, .int tu, .int ta, .int ps, .ref ql])) := by rw [eh22]; exact ((va_up_ne _ _ (ur_ne q13 q15 (by intro z; simp at z))).trans q13)
    have q24 : h22 ql = some (.inl (E.1 3, 64, .inr (.inr (.inr (.inr (va_up f b.toNatClampNeg (some w11))))))) := by rw [eh22]; exact (va_up_self _ _ _)
    have q25 : h22 qm = some (.inr (1, [.ref q1])) := by rw [eh22]; exact ((va_up_ne _ _ (ur_ne q17 q15 (by intro z; simp at z))).trans q17)
    have q26 : h22 q1 = some (.inl (E.1 0, 4000, .inl g)) := by rw [eh22]; exact ((va_up_ne _ _ (ur_ne q19 q15 (by intro z; simp at z))).trans q19)
    have q27 : h22 w11 = some (.inl (E.1 0, 100, .inl (fun _ => 0))) := by rw [eh22]; exact ((va_up_ne _ _ (Ne.symm n16)).trans q21)
    refine lv_aload_n hx hb dB_writeBlock_41 rfl (lv_at hl 4 rfl) ?_
    refine lv_aload hx hb dB_writeBlock_42 (lv_at hl 0 rfl) ?_
    refine lv_iload_n hx hb dB_writeBlock_44 rfl (lv_at hl 3 rfl) ?_
    refine ur_xv (va_runV (As := [.ref w11, .int a]) (rest := []) ⟨hx, hb, hml, hown, hts⟩ (kM_ci l D E h22 qm q1 w11 g (fun _ => 0) 100 a q25 q26 q27 (by first | assumption | omega | decide) n20 H.size) (cwV 2 hts (ur_gV mw340 mw341 mw342 mw2 mw343) rfl rfl rfl (by decide +kernel) ⟨(Nat.le_of_ble_eq_true rfl), (Nat.le_of_ble_eq_true rfl)⟩) ⟨ur_blind, va_recv hV (ur_one hI.1 q25) (ci := 1) (q0 := 0) rfl rfl, ur_pre hI hO hK (fun _ _ q => q)⟩ rfl rfl hl.1 rfl (lv_room (Nat.le_of_ble_eq_true rfl)) dB_writeBlock_45 ⟨Nat.le_of_ble_eq_true rfl, Nat.le_of_ble_eq_true rfl⟩) hI (fun h28 H locs p28 hI => ?_)
    have eh28 := p28
    have q29 : h28 q = some (.inr (3, [.int 100, .ref qb, .int du, .long fa, .int br, .int tu, .int ta, .int ps, .ref ql])) := by rw [eh28]; exact ((va_up_ne _ _ n14).trans q23)
    have q30 : h28 ql = some (.inl (E.1 3, 64, .inr (.inr (.inr (.inr (va_up f b.toNatClampNeg (some w11))))))) := by rw [eh28]; exact ((va_up_ne _ _ n16).trans q24)
    have q31 : h28 qm = some (.inr (1, [.ref q1])) := by rw [eh28]; exact ((va_up_ne _ _ n18).trans q25)
    have q32 : h28 q1 = some (.inl (E.1 0, 4000, .inl g)) := by rw [eh28]; exact ((va_up_ne _ _ n20).trans q26)
    have q33 : h28 w11 = some (.inl (E.1 0, 100, .inl (um_cin g (fun _ => 0) a 100))) := by rw [eh28]; exact (va_up_self _ _ _)
    exact ur_rv hx hb hr hlocks hI hQ (Or.inr ⟨c3, _, zw11, (by rw [hrow.2 _ hb9 c3, eh28, eh22, eh12, ur_sw (Ne.symm n16)])⟩) dB_writeBlock_48
abbrev rmkB_wordAt_K : Room := { frames := 0, cells := 0, slots := 0, locals := 0 }
set_option maxHeartbeats 4000000 in
set_option maxRecDepth 100000 in
theorem kB_wordAt_K (l : Launch) (D : va_G) (E : ur_Ev) (h : ur_M) (q : Nat) (qb : Nat) (ql : Nat) (du : Int32) (br : Int32) (tu : Int32) (ta : Int32) (fa : Int64) (f : Nat → Option Nat) (R : Nat → Nat → Int32) (b : Int32) (i : Int32) (f0 : h q = some (.inr (4, [.int 100, .ref qb, .int du, .long fa, .int br, .int tu, .int ta, .ref ql]))) (f1 : h ql = some (.inl (E.1 3, 64, .inr (.inr (.inr (.inr f)))))) (hrow : um_rowsAt E h f R) : ur_Mi l yB_wordAt wsB_wordAt rmkB_wordAt_K D vwCl (ur_v E) [.ref q, .int b, .int i] h (fun r h2 => r = um_wordAt R b i ∧ h2 = h) 0 0 := by
  intro sz
  refine ur_of (cc := cB_wordAt) (maxL := 4) (ret := (some .int)) (by decide) rfl (Nat.le_of_ble_eq_true rfl) ?_
  intro p e s m args below meth c ls Q hsz hx hb hml hr hlocks hnm hown hts hO hK hI hQ hl
  subst hsz
  have hV := hK.1
  have hts : ∀ w ∈ ur_G, w.before args s = true := fun w hw => hts w (List.mem_cons_of_mem _ hw)
  have hZ : ur_Z E (ur_A h s.heap.size) s s.heap := hO.1
  have hown : s.vm.findClass "UnitRoom$BlockDevice" = some m.cls := hown
  have hl : lv_has ls 4 [(0, .ref q), (1, .int b), (2, .int i)] := hl
  refine lv_iload_n hx hb dB_wordAt_0 rfl (lv_at hl 1 rfl) ?_
  refine lv_if_lt (tgt := 23) hx hb dB_wordAt_1 (by decide) (fun c1 => ?_) (fun c1 => ?_)
  · refine lv_ldc (v := 2147483647) hx hb hown (hts _ mw326) dB_wordAt_23 ?_
    exact ur_ri hx hb hr hlocks hI hQ ⟨(by simp only [um_wordAt, c1, ↓reduceIte]), rfl⟩ dB_wordAt_25
  · refine lv_iload_n hx hb dB_wordAt_4 rfl (lv_at hl 1 rfl) ?_
    refine lv_aload_n hx hb dB_wordAt_5 rfl (lv_at hl 0 rfl) ?_
    refine va_get (D := D) (ci := 4) (v := .ref ql) (C := "UnitRoom$Disk") (T := TK) (N := 8) hx hb hts inK hown hV (ur_one hI.1 f0) 0 rfl rfl 7 (by decide) (hts _ mw117) (fun _ h9 => h9) rfl dB_wordAt_6 ?_
    refine va_alen (v := 64) hx hb hV (ur_one hI.1 f1) 0 3 rfl rfl rfl dB_wordAt_9 ?_
    refine lv_icmp_ge (tgt := 23) hx hb dB_wordAt_10 (by decide) (fun c2 => ?_) (fun c2 => ?_)
    · refine lv_ldc (v := 2147483647) hx hb hown (hts _ mw326) dB_wordAt_23 ?_
      exact ur_ri hx hb hr hlocks hI hQ ⟨(by simp only [um_wordAt, c1, c2, ↓reduceIte]), rfl⟩ dB_wordAt_25
    · refine lv_iload_n hx hb dB_wordAt_13 rfl (lv_at hl 2 rfl) ?_
      refine lv_if_lt (tgt := 23) hx hb dB_wordAt_14 (by decide) (fun c3 => ?_) (fun c3 => ?_)
      · refine lv_ldc (v := 2147483647) hx hb hown (hts _ mw326) dB_wordAt_23 ?_
        exact ur_ri hx hb hr hlocks hI hQ ⟨(by simp only [um_wordAt, c1, c2, c3, ↓reduceIte]), rfl⟩ dB_wordAt_25
      · refine lv_iload_n hx hb dB_wordAt_17 rfl (lv_at hl 2 rfl) ?_
        refine lv_bipush (v := 100) hx hb dB_wordAt_18 (by decide) ?_
        refine lv_icmp_lt (tgt := 26) hx hb dB_wordAt_20 (by decide) (fun c4 => ?_) (fun c4 => ?_)
        · refine lv_aload_n hx hb dB_wordAt_26 rfl (lv_at hl 0 rfl) ?_
          refine va_get (D := D) (ci := 4) (v := .ref ql) (C := "UnitRoom$Disk") (T := TK) (N := 8) hx hb hts inK hown hV (ur_one hI.1 f0) 0 rfl rfl 7 (by decide) (hts _ mw117) (fun _ h9 => h9) rfl dB_wordAt_27 ?_
          refine lv_iload_n hx hb dB_wordAt_30 rfl (lv_at hl 1 rfl) ?_
          refine ur_aldA hx hb hV hI 3 f1 rfl rfl (um_in' c1 c2 (by decide)) dB_wordAt_31 ?_
          refine ur_asn (lv' := [(3, va_rf (f b.toNatClampNeg)), (0, .ref q), (1, .int b), (2, .int i)]) hx hb dB_wordAt_32 rfl hl (by decide) rfl (fun ls hl => ?_)
          refine ur_aln hx hb dB_wordAt_33 rfl (lv_at hl 0 rfl) ?_
          refine ur_ifn (tgt := 43) hx hb dB_wordAt_34 (by decide) (fun c5 => ?_) (fun a6 c5 => ?_)
          · rw [c5] at hl
            have hb9 : b.toNatClampNeg < 64 := um_lt c1 c2 (by decide)
            refine lv_iconst (v := 0) hx hb dB_wordAt_43 (by decide) ?_
            refine lv_goto (tgt := 50) hx hb dB_wordAt_44 (by decide) ?_
            exact ur_ri hx hb hr hlocks hI hQ ⟨(by simp only [um_wordAt, c1, c2, c3, c4, ↓reduceIte]; rw [hrow.2 _ hb9 c5]), rfl⟩ dB_wordAt_50
          · rw [c5] at hl
            have hb9 : b.toNatClampNeg < 64 := um_lt c1 c2 (by decide)
            have fr : h a6 = some (.inl (E.1 0, 100, .inl (R b.toNatClampNeg))) := hrow.1 _ hb9 _ c5
            refine lv_iload_n hx hb dB_wordAt_37 rfl (lv_at hl 3 rfl) ?_
            refine lv_aload_n hx hb dB_wordAt_38 rfl (lv_at hl 0 rfl) ?_
            refine va_alen (v := 100) hx hb hV (ur_one hI.1 fr) 0 0 rfl rfl rfl dB_wordAt_39 ?_
            refine lv_icmp_lt (tgt := 47) hx hb dB_wordAt_40 (by decide) (fun c7 => ?_) (fun c7 => absurd c7 (not_not_intro c4))
            refine lv_aload_n hx hb dB_wordAt_47 rfl (lv_at hl 0 rfl) ?_
            refine lv_iload_n hx hb dB_wordAt_48 rfl (lv_at hl 3 rfl) ?_
            refine va_iald hx hb hV (ur_one hI.1 fr) 0 0 rfl rfl (um_in c3 c4 (by decide)) dB_wordAt_49 ?_
            exact ur_ri hx hb hr hlocks hI hQ ⟨(by simp only [um_wordAt, c1, c2, c3, c4, ↓reduceIte]), rfl⟩ dB_wordAt_50
        · refine lv_ldc (v := 2147483647) hx hb hown (hts _ mw326) dB_wordAt_23 ?_
          exact ur_ri hx hb hr hlocks hI hQ ⟨(by simp only [um_wordAt, c1, c2, c3, c4, ↓reduceIte]), rfl⟩ dB_wordAt_25
abbrev rmkB_read_K : Room := { frames := 1, cells := 0, slots := 0, locals := 23 }
set_option maxHeartbeats 4000000 in
set_option maxRecDepth 100000 in
theorem kB_read_K (l : Launch) (D : va_G) (E : ur_Ev) (h : ur_M) (q : Nat) (qb : Nat) (ql : Nat) (du : Int32) (br : Int32) (tu : Int32) (ta : Int32) (fa : Int64) (f : Nat → Option Nat) (R : Nat → Nat → Int32) (o : Nat → Int32) (b : Int32) (a : Int32) (f0 : h q = some (.inr (4, [.int 100, .ref qb, .int du, .long fa, .int br, .int tu, .int ta, .ref ql]))) (f1 : h ql = some (.inl (E.1 3, 64, .inr (.inr (.inr (.inr f)))))) (f2 : h qb = some (.inl (E.1 0, 100, .inl o))) (hrow : um_rowsAt E h f R) (hrb : ∀ j, j < 64 → f j ≠ some qb) : ur_Mv l yB_readBlock wsB_readBlock rmkB_read_K D vwCl (ur_v E) [.ref q, .int b, .int a] h (fun h2 => h2 = va_up (va_up h qb (some (.inl (E.1 0, 100, .inl (um_bring R b o 100))))) q (some (.inr (4, [.int 100, .ref qb, .int du, .long fa, .int 1, .int tu, .int a, .ref ql])))) 0 0 := by
  intro sz
  refine ur_of (cc := cB_readBlock) (maxL := 4) (ret := none) (by decide) rfl (Nat.le_of_ble_eq_true rfl) ?_
  intro p e s m args below meth c ls Q hsz hx hb hml hr hlocks hnm hown hts hO hK hI hQ hl
  subst hsz
  have hV := hK.1
  have hts : ∀ w ∈ ur_G, w.before args s = true := fun w hw => hts w (List.mem_cons_of_mem _ hw)
  have hZ : ur_Z E (ur_A h s.heap.size) s s.heap := hO.1
  have hown : s.vm.findClass "UnitRoom$BlockDevice" = some m.cls := hown
  have hl : lv_has ls 4 [(0, .ref q), (1, .int b), (2, .int a)] := hl
  refine lv_iconst (v := 0) hx hb dB_readBlock_0 (by decide) ?_
  refine lv_istore_n (lv' := [(3, .int 0), (0, .ref q), (1, .int b), (2, .int a)]) hx hb dB_readBlock_1 rfl hl (by decide) rfl (fun ls hl => ?_)
  have lpn1 : ∀ (n1 : Nat) (i : Nat) (hn1 : ur_M) (H : Heap) (locs : List Loc) (ls : Array Slot), 100 - i < n1 → (i ≤ 100) → hn1 = va_up h qb (some (.inl (E.1 0, 100, .inl (um_bring R b o i)))) → ur_I D vwCl (ur_A h s.heap.size) s.heap hn1 H locs → lv_has ls 4 [(0, .ref q), (1, .int b), (2, .int a), (3, .int (nI i))] → W p l e rmkB_read_K s m args below meth c H locs 0 0 Q (F0 m 2 ls []) := by
    intro n1
    induction n1 with
    | zero => intro i hn1 H locs ls hnn1; exact absurd hnn1 (Nat.not_lt_zero _)
    | succ n1 ihn1 =>
      intro i hn1 H locs ls hnn1 hi ehn1 hI hl
      have q2 : hn1 q = some (.inr (4, [.int 100, .ref qb, .int du, .long fa, .int br, .int tu, .int ta, .ref ql])) := by rw [ehn1]; exact (va_up_ne _ _ (ur_ne f0 f2 (by intro z; simp at z))).trans f0
      have q3 : hn1 ql = some (.inl (E.1 3, 64, .inr (.inr (.inr (.inr f))))) := by rw [ehn1]; exact (va_up_ne _ _ (ur_ne f1 f2 (by intro z; simp at z))).trans f1
      have q4 : hn1 qb = some (.inl (E.1 0, 100, .inl (um_bring R b o i))) := by rw [ehn1]; exact va_up_self _ _ _
      refine lv_iload_n hx hb dB_readBlock_2 rfl (lv_at hl 3 rfl) ?_
      refine lv_aload_n hx hb dB_readBlock_3 rfl (lv_at hl 0 rfl) ?_
      refine va_get (D := D) (ci := 4) (v := .ref qb) (C := "UnitRoom$Disk") (T := TK) (N := 8) hx hb hts inK hown hV (ur_one hI.1 q2) 0 rfl rfl 1 (by decide) (hts _ mw71) (fun x9 h9 => u_same (hts _ mw72) x9 h9) rfl dB_readBlock_4 ?_
      refine va_alen (v := 100) hx hb hV (ur_one hI.1 q4) 0 0 rfl rfl rfl dB_readBlock_7 ?_
      refine lv_icmp_ge (tgt := 29) hx hb dB_readBlock_8 (by decide) (fun c5 => ?_) (fun c5 => ?_)
      · have he9 : i = 100 := Nat.le_antisymm hi (Nat.not_lt.mp (fun z9 => nI_ge z9 (by decide) c5))
        refine lv_aload_n hx hb dB_readBlock_29 rfl (lv_at hl 0 rfl) ?_
        refine lv_iload_n hx hb dB_readBlock_30 rfl (lv_at hl 2 rfl) ?_
        refine ur_xv (va_runU (As := [.int a]) (rest := []) ⟨hx, hb, hml, hown, hts⟩ (kD_bringTo l D E hn1 q 4 qb 100 du br tu ta fa ([.ref ql]) a q2 (by unfold um_isD; decide) H.size) (va_cwU (owner := "UnitRoom$Device") 1 hts (ur_gU mw327 mw328 mw330 mw332 mw4 mw333) rfl rfl rfl rfl (by decide +kernel) ⟨(Nat.le_of_ble_eq_true rfl), (Nat.le_of_ble_eq_true rfl)⟩) ⟨ur_blind, va_recv hV (ur_one hI.1 q2) (ci := 4) (q0 := 0) rfl rfl, ur_pre hI hO hK (fun _ _ q => q)⟩ rfl rfl hl.1 rfl (lv_room (Nat.le_of_ble_eq_true rfl)) dB_readBlock_31 ⟨Nat.le_of_ble_eq_true rfl, Nat.le_of_ble_eq_true rfl⟩) hI (fun h6 H locs p6 hI => ?_)
        have eh6 := p6
        have q7 : h6 q = some (.inr (4, [.int 100, .ref qb, .int du, .long fa, .int 1, .int tu, .int a, .ref ql])) := by rw [eh6]; exact (va_up_self _ _ _)
        have q8 : h6 ql = some (.inl (E.1 3, 64, .inr (.inr (.inr (.inr f))))) := by rw [eh6]; exact ((va_up_ne _ _ (ur_ne q3 q2 (by intro z; simp at z))).trans q3)
        have q9 : h6 qb = some (.inl (E.1 0, 100, .inl (um_bring R b o i))) := by rw [eh6]; exact ((va_up_ne _ _ (ur_ne q4 q2 (by intro z; simp at z))).trans q4)
        exact ur_rv hx hb hr hlocks hI hQ (by rw [eh6, ehn1, he9]) dB_readBlock_34
      · have hlt : i < 100 := Nat.not_le.mp (fun z9 => c5 (nI_le z9 (by omega)))
        refine lv_aload_n hx hb dB_readBlock_11 rfl (lv_at hl 0 rfl) ?_
        refine va_get (D := D) (ci := 4) (v := .ref qb) (C := "UnitRoom$Disk") (T := TK) (N := 8) hx hb hts inK hown hV (ur_one hI.1 q2) 0 rfl rfl 1 (by decide) (hts _ mw71) (fun x9 h9 => u_same (hts _ mw72) x9 h9) rfl dB_readBlock_12 ?_
        refine lv_iload_n hx hb dB_readBlock_15 rfl (lv_at hl 3 rfl) ?_
        refine lv_aload_n hx hb dB_readBlock_16 rfl (lv_at hl 0 rfl) ?_
        refine lv_iload_n hx hb dB_readBlock_17 rfl (lv_at hl 1 rfl) ?_
        refine lv_iload_n hx hb dB_readBlock_18 rfl (lv_at hl 3 rfl) ?_
        refine ur_xi (va_runU (As := [.int b, .int (nI i)]) (rest := [.int (nI i), .ref qb]) ⟨hx, hb, hml, hown, hts⟩ (kB_wordAt_K l D E hn1 q qb ql du br tu ta fa f R b (nI i) q2 q3 (by rw [ehn1]; exact hrow.up hrb) H.size) (va_cwU (owner := "UnitRoom$BlockDevice") 2 hts (ur_gU mw320 mw322 mw323 mw321 mw7 mw325) rfl rfl rfl rfl (by decide +kernel) ⟨(Nat.le_of_ble_eq_true rfl), (Nat.le_of_ble_eq_true rfl)⟩) ⟨ur_blind, va_recv hV (ur_one hI.1 q2) (ci := 4) (q0 := 0) rfl rfl, ur_pre hI hO hK (fun _ _ q => q)⟩ rfl rfl hl.1 rfl (lv_room (Nat.le_of_ble_eq_true rfl)) dB_readBlock_19 ⟨Nat.le_of_ble_eq_true rfl, Nat.le_of_ble_eq_true rfl⟩) hI (fun r10 h10 H locs p10 hI => ?_)
        obtain ⟨er10, eh10⟩ := p10
        replace eh10 := eh10.symm; subst eh10
        replace er10 := er10.symm; subst er10
        refine ur_iast hx hb hV hI 0 q4 rfl (vp_in_nI hlt (by decide)) dB_readBlock_22 (fun H locs hI => ?_)
        obtain ⟨h11, eh11⟩ : ∃ z : ur_M, z = va_up hn1 qb (some (.inl (E.1 0, 100, .inl (upd (um_bring R b o i) (Int32.toNatClampNeg (nI i)) (um_wordAt R b (nI i)))))) := ⟨_, rfl⟩
        replace hI : ur_I D vwCl (ur_A h s.heap.size) s.heap h11 H locs := by rw [eh11]; exact hI
        have q12 : h11 q = some (.inr (4, [.int 100, .ref qb, .int du, .long fa, .int br, .int tu, .int ta, .ref ql])) := by rw [eh11]; exact ((va_up_ne _ _ (ur_ne q2 q4 (by intro z; simp at z))).trans q2)
        have q13 : h11 ql = some (.inl (E.1 3, 64, .inr (.inr (.inr (.inr f))))) := by rw [eh11]; exact ((va_up_ne _ _ (ur_ne q3 q4 (by intro z; simp at z))).trans q3)
        have q14 : h11 qb = some (.inl (E.1 0, 100, .inl (upd (um_bring R b o i) (Int32.toNatClampNeg (nI i)) (um_wordAt R b (nI i))))) := by rw [eh11]; exact (va_up_self _ _ _)
        refine lv_iinc (v := ((nI i) + 1)) (lv' := [(3, .int ((nI i) + 1)), (0, .ref q), (1, .int b), (2, .int a)]) hx hb dB_readBlock_23 hl (k := 3) rfl rfl (by decide) rfl (fun ls hl => ?_)
        refine lv_goto (tgt := 2) hx hb dB_readBlock_26 (by decide) ?_
        rw [nI_1] at hl
        exact ihn1 (i + 1) h11 H locs ls (by omega) hlt (by rw [eh11, ehn1, bx_uu, nI_clamp (by omega), um_bring_succ]) hI (lv_sub hl [1, 2, 3, 0] rfl)
  exact lpn1 _ 0 h _ _ ls (Nat.lt_succ_self _) (by decide) ((by rw [show um_bring R b o 0 = o by funext j9; simp [um_bring]]; exact (ur_same f2).symm)) hI (lv_sub hl [1, 2, 3, 0] rfl)
abbrev rmkB_write_K : Room := { frames := 2, cells := 1, slots := 100, locals := 48 }
set_option maxHeartbeats 4000000 in
set_option maxRecDepth 100000 in
theorem kB_write_K (l : Launch) (D : va_G) (E : ur_Ev) (h : ur_M) (q : Nat) (qb : Nat) (ql : Nat) (du : Int32) (br : Int32) (tu : Int32) (ta : Int32) (fa : Int64) (qm : Nat) (q1 : Nat) (f : Nat → Option Nat) (R : Nat → Nat → Int32) (g : Nat → Int32) (b : Int32) (a : Int32) (f0 : h q = some (.inr (4, [.int 100, .ref qb, .int du, .long fa, .int br, .int tu, .int ta, .ref ql]))) (f1 : h ql = some (.inl (E.1 3, 64, .inr (.inr (.inr (.inr f)))))) (f2 : h qm = some (.inr (1, [.ref q1]))) (f3 : h q1 = some (.inl (E.1 0, 4000, .inl g))) (hrow : um_rowsAt E h f R) (hrq : ∀ j, j < 64 → f j ≠ some q1) (hb0 : ¬ b < 0) (hb1 : b < 64) : ur_Mv l yB_writeBlock wsB_writeBlock rmkB_write_K D vwCl (ur_v E) [.ref q, .int b, .int a, .ref qm] h (fun h2 => um_wrote E h ql f b.toNatClampNeg (um_cin g (R b.toNatClampNeg) a 100) h2) 1 100 := by
  intro sz
  refine ur_of (cc := cB_writeBlock) (maxL := 5) (ret := none) (by decide) rfl (Nat.le_of_ble_eq_true rfl) ?_
  intro p e s m args below meth c ls Q hsz hx hb hml hr hlocks hnm hown hts hO hK hI hQ hl
  subst hsz
  have hV := hK.1
  have hts : ∀ w ∈ ur_G, w.before args s = true := fun w hw => hts w (List.mem_cons_of_mem _ hw)
  have hZ : ur_Z E (ur_A h s.heap.size) s s.heap := hO.1
  have hown : s.vm.findClass "UnitRoom$BlockDevice" = some m.cls := hown
  have hl : lv_has ls 5 [(0, .ref q), (1, .int b), (2, .int a), (3, .ref qm)] := hl
  refine lv_iload_n hx hb dB_writeBlock_0 rfl (lv_at hl 1 rfl) ?_
  refine lv_if_lt (tgt := 13) hx hb dB_writeBlock_1 (by decide) (fun c1 => absurd c1 hb0) (fun c1 => ?_)
  refine lv_iload_n hx hb dB_writeBlock_4 rfl (lv_at hl 1 rfl) ?_
  refine lv_aload_n hx hb dB_writeBlock_5 rfl (lv_at hl 0 rfl) ?_
  refine va_get (D := D) (ci := 4) (v := .ref ql) (C := "UnitRoom$Disk") (T := TK) (N := 8) hx hb hts inK hown hV (ur_one hI.1 f0) 0 rfl rfl 7 (by decide) (hts _ mw117) (fun _ h9 => h9) rfl dB_writeBlock_6 ?_
  refine va_alen (v := 64) hx hb hV (ur_one hI.1 f1) 0 3 rfl rfl rfl dB_writeBlock_9 ?_
  refine lv_icmp_lt (tgt := 14) hx hb dB_writeBlock_10 (by decide) (fun c2 => ?_) (fun c2 => absurd c2 (not_not_intro hb1))
  refine lv_aload_n hx hb dB_writeBlock_14 rfl (lv_at hl 0 rfl) ?_
  refine va_get (D := D) (ci := 4) (v := .ref ql) (C := "UnitRoom$Disk") (T := TK) (N := 8) hx hb hts inK hown hV (ur_one hI.1 f0) 0 rfl rfl 7 (by decide) (hts _ mw117) (fun _ h9 => h9) rfl dB_writeBlock_15 ?_
  refine lv_iload_n hx hb dB_writeBlock_18 rfl (lv_at hl 1 rfl) ?_
  refine ur_aldA hx hb hV hI 3 f1 rfl rfl (um_in hb0 hb1 (by decide)) dB_writeBlock_19 ?_
  refine ur_as (lv' := [(4, va_rf (f b.toNatClampNeg)), (0, .ref q), (1, .int b), (2, .int a), (3, .ref qm)]) hx hb dB_writeBlock_20 hl (by decide) rfl (fun ls hl => ?_)
  refine ur_al hx hb dB_writeBlock_22 (lv_at hl 0 rfl) ?_
  refine ur_ifnn (tgt := 41) hx hb dB_writeBlock_24 (by decide) (fun a4 c3 => ?_) (fun c3 => ?_)
  · rw [c3] at hl
    have hb9 : b.toNatClampNeg < 64 := um_lt2 hb0 hb1 (by decide)
    have fr : h a4 = some (.inl (E.1 0, 100, .inl (R b.toNatClampNeg))) := hrow.1 _ hb9 _ c3
    have hq9 : q1 ≠ a4 := fun z9 => hrq _ hb9 (by rw [c3, z9])
    refine lv_aload_n hx hb dB_writeBlock_41 rfl (lv_at hl 4 rfl) ?_
    refine lv_aload hx hb dB_writeBlock_42 (lv_at hl 0 rfl) ?_
    refine lv_iload_n hx hb dB_writeBlock_44 rfl (lv_at hl 3 rfl) ?_
    refine ur_xv (va_runV (As := [.ref a4, .int a]) (rest := []) ⟨hx, hb, hml, hown, hts⟩ (kM_ci l D E h qm q1 a4 g (R b.toNatClampNeg) 100 a f2 f3 fr (by first | assumption | omega | decide) hq9 s.heap.size) (cwV 2 hts (ur_gV mw340 mw341 mw342 mw2 mw343) rfl rfl rfl (by decide +kernel) ⟨(Nat.le_of_ble_eq_true rfl), (Nat.le_of_ble_eq_true rfl)⟩) ⟨ur_blind, va_recv hV (ur_one hI.1 f2) (ci := 1) (q0 := 0) rfl rfl, ur_pre hI hO hK (fun _ _ q => q)⟩ rfl rfl hl.1 rfl (lv_room (Nat.le_of_ble_eq_true rfl)) dB_writeBlock_45 ⟨Nat.le_of_ble_eq_true rfl, Nat.le_of_ble_eq_true rfl⟩) hI (fun h5 H locs p5 hI => ?_)
    have eh5 := p5
    have q6 : h5 q = some (.inr (4, [.int 100, .ref qb, .int du, .long fa, .int br, .int tu, .int ta, .ref ql])) := by rw [eh5]; exact ((va_up_ne _ _ (ur_ne f0 fr (by intro z; simp at z))).trans f0)
    have q7 : h5 ql = some (.inl (E.1 3, 64, .inr (.inr (.inr (.inr f))))) := by rw [eh5]; exact ((va_up_ne _ _ (ur_ne f1 fr (by intro z; simp at z))).trans f1)
    have q8 : h5 qm = some (.inr (1, [.ref q1])) := by rw [eh5]; exact ((va_up_ne _ _ (ur_ne f2 fr (by intro z; simp at z))).trans f2)
    have q9 : h5 q1 = some (.inl (E.1 0, 4000, .inl g)) := by rw [eh5]; exact ((va_up_ne _ _ hq9).trans f3)
    have q10 : h5 a4 = some (.inl (E.1 0, 100, .inl (um_cin g (R b.toNatClampNeg) a 100))) := by rw [eh5]; exact (va_up_self _ _ _)
    refine W.widen (k := 1) (n := 100) (by omega) (by omega) ?_
    exact ur_rv hx hb hr hlocks hI hQ (Or.inl ⟨_, c3, eh5⟩) dB_writeBlock_48
  · rw [c3] at hl
    have hb9 : b.toNatClampNeg < 64 := um_lt2 hb0 hb1 (by decide)
    refine lv_bipush (v := 100) hx hb dB_writeBlock_27 (by decide) ?_
    refine ur_newa (atype := .int) (a0 := (100, (.inl (fun _ => 0)))) hx hb (hts _ mw36) rfl 0 hV rfl rfl hI (n := 100) (N' := 100) (fun _ => by rfl) (by decide) rfl (by decide) (Nat.le_of_ble_eq_true rfl) (Nat.le_of_ble_eq_true rfl) dB_writeBlock_29 (fun w11 H zw11 hI => ?_)
    obtain ⟨h12, eh12⟩ : ∃ z : ur_M, z = va_up h w11 (some (.inl (E.1 0, 100, .inl (fun _ => 0)))) := ⟨_, rfl⟩
    replace hI : ur_I D vwCl (ur_A h s.heap.size) s.heap h12 H [] := by rw [eh12]; exact hI
    have n14 : q ≠ w11 := ur_fresh f0 zw11
    have q13 : h12 q = some (.inr (4, [.int 100, .ref qb, .int du, .long fa, .int br, .int tu, .int ta, .ref ql])) := by rw [eh12]; exact (va_up_ne _ _ n14).trans f0
    have n16 : ql ≠ w11 := ur_fresh f1 zw11
    have q15 : h12 ql = some (.inl (E.1 3, 64, .inr (.inr (.inr (.inr f))))) := by rw [eh12]; exact (va_up_ne _ _ n16).trans f1
    have n18 : qm ≠ w11 := ur_fresh f2 zw11
    have q17 : h12 qm = some (.inr (1, [.ref q1])) := by rw [eh12]; exact (va_up_ne _ _ n18).trans f2
    have n20 : q1 ≠ w11 := ur_fresh f3 zw11
    have q19 : h12 q1 = some (.inl (E.1 0, 4000, .inl g)) := by rw [eh12]; exact (va_up_ne _ _ n20).trans f3
    have q21 : h12 w11 = some (.inl (E.1 0, 100, .inl (fun _ => 0))) := by rw [eh12]; exact va_up_self _ _ _
    refine lv_astore (lv' := [(4, .ref w11), (0, .ref q), (1, .int b), (2, .int a), (3, .ref qm)]) hx hb dB_writeBlock_31 hl (by decide) rfl (fun ls hl => ?_)
    refine lv_aload_n hx hb dB_writeBlock_33 rfl (lv_at hl 1 rfl) ?_
    refine va_get (D := D) (ci := 4) (v := .ref ql) (C := "UnitRoom$Disk") (T := TK) (N := 8) hx hb hts inK hown hV (ur_one hI.1 q13) 0 rfl rfl 7 (by decide) (hts _ mw117) (fun _ h9 => h9) rfl dB_writeBlock_34 ?_
    refine lv_iload_n hx hb dB_writeBlock_37 rfl (lv_at hl 2 rfl) ?_
    refine lv_aload hx hb dB_writeBlock_38 (lv_at hl 0 rfl) ?_
    refine ur_astA hx hb hI q15 hK.2.1.2.2.2.2.2.1.1 hK.2.1.2.2.2.2.2.1.2 q21 (um_in hb0 hb1 (by decide)) dB_writeBlock_40 (fun H locs hI => ?_)
    obtain ⟨h22, eh22⟩ : ∃ z : ur_M, z = va_up h12 ql (some (.inl (E.1 3, 64, .inr (.inr (.inr (.inr (va_up f b.toNatClampNeg (some w11)))))))) := ⟨_, rfl⟩
    replace hI : ur_I D vwCl (ur_A h s.heap.size) s.heap h22 H locs := by rw [eh22]; exact hI
    have q23 : h22 q = some (.inr (4, [.int 100, .ref qb, .int du, .long fa, .int br, .int tu, .int ta, .ref ql])) := by rw [eh22]; exact ((va_up_ne _ _ (ur_ne q13 q15 (by intro z; simp at z))).trans q13)
    have q24 : h22 ql = some (.inl (E.1 3, 64, .inr (.inr (.inr (.inr (va_up f b.toNatClampNeg (some w11))))))) := by rw [eh22]; exact (va_up_self _ _ _)
    have q25 : h22 qm = some (.inr (1, [.ref q1])) := by rw [eh22]; exact ((va_up_ne _ _ (ur_ne q17 q15 (by intro z; simp at z))).trans q17)
    have q26 : h22 q1 = some (.inl (E.1 0, 4000, .inl g)) := by rw [eh22]; exact ((va_up_ne _ _ (ur_ne q19 q15 (by intro z; simp at z))).trans q19)
    have q27 : h22 w11 = some (.inl (E.1 0, 100, .inl (fun _ => 0))) := by rw [eh22]; exact ((va_up_ne _ _ (Ne.symm n16)).trans q21)
    refine lv_aload_n hx hb dB_writeBlock_41 rfl (lv_at hl 4 rfl) ?_
    refine lv_aload hx hb dB_writeBlock_42 (lv_at hl 0 rfl) ?_
    refine lv_iload_n hx hb dB_writeBlock_44 rfl (lv_at hl 3 rfl) ?_
    refine ur_xv (va_runV (As := [.ref w11, .int a]) (rest := []) ⟨hx, hb, hml, hown, hts⟩ (kM_ci l D E h22 qm q1 w11 g (fun _ => 0) 100 a q25 q26 q27 (by first | assumption | omega | decide) n20 H.size) (cwV 2 hts (ur_gV mw340 mw341 mw342 mw2 mw343) rfl rfl rfl (by decide +kernel) ⟨(Nat.le_of_ble_eq_true rfl), (Nat.le_of_ble_eq_true rfl)⟩) ⟨ur_blind, va_recv hV (ur_one hI.1 q25) (ci := 1) (q0 := 0) rfl rfl, ur_pre hI hO hK (fun _ _ q => q)⟩ rfl rfl hl.1 rfl (lv_room (Nat.le_of_ble_eq_true rfl)) dB_writeBlock_45 ⟨Nat.le_of_ble_eq_true rfl, Nat.le_of_ble_eq_true rfl⟩) hI (fun h28 H locs p28 hI => ?_)
    have eh28 := p28
    have q29 : h28 q = some (.inr (4, [.int 100, .ref qb, .int du, .long fa, .int br, .int tu, .int ta, .ref ql])) := by rw [eh28]; exact ((va_up_ne _ _ n14).trans q23)
    have q30 : h28 ql = some (.inl (E.1 3, 64, .inr (.inr (.inr (.inr (va_up f b.toNatClampNeg (some w11))))))) := by rw [eh28]; exact ((va_up_ne _ _ n16).trans q24)
    have q31 : h28 qm = some (.inr (1, [.ref q1])) := by rw [eh28]; exact ((va_up_ne _ _ n18).trans q25)
    have q32 : h28 q1 = some (.inl (E.1 0, 4000, .inl g)) := by rw [eh28]; exact ((va_up_ne _ _ n20).trans q26)
    have q33 : h28 w11 = some (.inl (E.1 0, 100, .inl (um_cin g (fun _ => 0) a 100))) := by rw [eh28]; exact (va_up_self _ _ _)
    exact ur_rv hx hb hr hlocks hI hQ (Or.inr ⟨c3, _, zw11, (by rw [hrow.2 _ hb9 c3, eh28, eh22, eh12, ur_sw (Ne.symm n16)])⟩) dB_writeBlock_48
