theorem dN_hasRoom_0 : decode cN_hasRoom 0 = .ok (.aload_n 0, 1) := by decide +kernel
theorem dN_hasRoom_1 : decode cN_hasRoom 1 = .ok (.getfield 13, 3) := by decide +kernel
theorem dN_hasRoom_4 : decode cN_hasRoom 4 = .ok (.aload_n 0, 1) := by decide +kernel
theorem dN_hasRoom_5 : decode cN_hasRoom 5 = .ok (.getfield 7, 3) := by decide +kernel
theorem dN_hasRoom_8 : decode cN_hasRoom 8 = .ok (.arraylength, 1) := by decide +kernel
theorem dN_hasRoom_9 : decode cN_hasRoom 9 = .ok (.bipush 20, 2) := by decide +kernel
theorem dN_hasRoom_11 : decode cN_hasRoom 11 = .ok (.isub, 1) := by decide +kernel
theorem dN_hasRoom_12 : decode cN_hasRoom 12 = .ok (.if_icmp .gt 7, 3) := by decide +kernel
theorem dN_hasRoom_15 : decode cN_hasRoom 15 = .ok (.iconst 1, 1) := by decide +kernel
theorem dN_hasRoom_16 : decode cN_hasRoom 16 = .ok (.goto 4, 3) := by decide +kernel
theorem dN_hasRoom_19 : decode cN_hasRoom 19 = .ok (.iconst 0, 1) := by decide +kernel
theorem dN_hasRoom_20 : decode cN_hasRoom 20 = .ok (.ireturn, 1) := by decide +kernel
abbrev rmkN_hasRoom : Room := { frames := 0, cells := 0, slots := 0, locals := 0 }
set_option maxHeartbeats 4000000 in
set_option maxRecDepth 100000 in
theorem kN_hasRoom (l : Launch) (D : va_G) (E : ur_Ev) (h : ur_M) (q : Nat) (q1 : Nat) (b : Nat → Int32) (x : Int32) (f0 : h q = some (.inr (2, [.ref q1, .int x]))) (f1 : h q1 = some (.inl (E.1 1, 400, .inl b)))  : ur_Mi l yN_hasRoom wsN_hasRoom rmkN_hasRoom D vwCl (ur_v E) [.ref q] h (fun r h2 => r = um_b (um_room x) ∧ h2 = h) 0 0 := by
  intro sz
  refine ur_of (cc := cN_hasRoom) (maxL := 1) (ret := (some .boolean)) (by decide) rfl (Nat.le_of_ble_eq_true rfl) ?_
  intro p e s m args below meth c ls Q hsz hx hb hml hr hlocks hnm hown hts hO hK hI hQ hl
  subst hsz
  have hV := hK.1
  have hts : ∀ w ∈ ur_G, w.before args s = true := fun w hw => hts w (List.mem_cons_of_mem _ hw)
  have hZ : ur_Z E (ur_A h s.heap.size) s s.heap := hO.1
  have hown : s.vm.findClass "UnitRoom$InputTape" = some m.cls := hown
  have hl : lv_has ls 1 [(0, .ref q)] := hl
  refine lv_aload_n hx hb dN_hasRoom_0 rfl (lv_at hl 0 rfl) ?_
  refine va_get (D := D) (ci := 2) (v := .int x) (C := "UnitRoom$InputTape") (T := TN) (N := 2) hx hb hts inN hown hV (ur_one hI.1 f0) 0 rfl rfl 1 (by decide) (hts _ mw44) (fun _ h9 => h9) rfl dN_hasRoom_1 ?_
  refine lv_aload_n hx hb dN_hasRoom_4 rfl (lv_at hl 0 rfl) ?_
  refine va_get (D := D) (ci := 2) (v := .ref q1) (C := "UnitRoom$InputTape") (T := TN) (N := 2) hx hb hts inN hown hV (ur_one hI.1 f0) 0 rfl rfl 0 (by decide) (hts _ mw43) (fun _ h9 => h9) rfl dN_hasRoom_5 ?_
  refine va_alen (v := 400) hx hb hV (ur_one hI.1 f1) 0 1 rfl rfl rfl dN_hasRoom_8 ?_
  refine lv_bipush (v := 20) hx hb dN_hasRoom_9 (by decide) ?_
  refine lv_isub hx hb dN_hasRoom_11 ?_
  refine lv_icmp_gt (tgt := 19) hx hb dN_hasRoom_12 (by decide) (fun c1 => ?_) (fun c1 => ?_)
  · refine lv_iconst (v := 0) hx hb dN_hasRoom_19 (by decide) ?_
    exact ur_rz hx hb hr hlocks hI hQ rfl ⟨(by first | (simp only [um_room, c1, ↓reduceIte]; done) | (simp only [um_room, c1, ↓reduceIte]; rfl) | rfl), rfl⟩ dN_hasRoom_20
  · refine lv_iconst (v := 1) hx hb dN_hasRoom_15 (by decide) ?_
    refine lv_goto (tgt := 20) hx hb dN_hasRoom_16 (by decide) ?_
    exact ur_rz hx hb hr hlocks hI hQ rfl ⟨(by first | (simp only [um_room, c1, ↓reduceIte]; done) | (simp only [um_room, c1, ↓reduceIte]; rfl) | rfl), rfl⟩ dN_hasRoom_20
theorem dN_append_0 : decode cN_append 0 = .ok (.bipush 24, 2) := by decide +kernel
theorem dN_append_2 : decode cN_append 2 = .ok (.istore_n 2, 1) := by decide +kernel
theorem dN_append_3 : decode cN_append 3 = .ok (.iload_n 2, 1) := by decide +kernel
theorem dN_append_4 : decode cN_append 4 = .ok (.ifCond .lt 44, 3) := by decide +kernel
theorem dN_append_7 : decode cN_append 7 = .ok (.aload_n 0, 1) := by decide +kernel
theorem dN_append_8 : decode cN_append 8 = .ok (.getfield 13, 3) := by decide +kernel
theorem dN_append_11 : decode cN_append 11 = .ok (.aload_n 0, 1) := by decide +kernel
theorem dN_append_12 : decode cN_append 12 = .ok (.getfield 7, 3) := by decide +kernel
theorem dN_append_15 : decode cN_append 15 = .ok (.arraylength, 1) := by decide +kernel
theorem dN_append_16 : decode cN_append 16 = .ok (.if_icmp .ge 32, 3) := by decide +kernel
theorem dN_append_19 : decode cN_append 19 = .ok (.aload_n 0, 1) := by decide +kernel
theorem dN_append_20 : decode cN_append 20 = .ok (.getfield 7, 3) := by decide +kernel
theorem dN_append_23 : decode cN_append 23 = .ok (.aload_n 0, 1) := by decide +kernel
theorem dN_append_24 : decode cN_append 24 = .ok (.getfield 13, 3) := by decide +kernel
theorem dN_append_27 : decode cN_append 27 = .ok (.iload_n 1, 1) := by decide +kernel
theorem dN_append_28 : decode cN_append 28 = .ok (.iload_n 2, 1) := by decide +kernel
theorem dN_append_29 : decode cN_append 29 = .ok (.ishr, 1) := by decide +kernel
theorem dN_append_30 : decode cN_append 30 = .ok (.i2b, 1) := by decide +kernel
theorem dN_append_31 : decode cN_append 31 = .ok (.bastore, 1) := by decide +kernel
theorem dN_append_32 : decode cN_append 32 = .ok (.aload_n 0, 1) := by decide +kernel
theorem dN_append_33 : decode cN_append 33 = .ok (.dup, 1) := by decide +kernel
theorem dN_append_34 : decode cN_append 34 = .ok (.getfield 13, 3) := by decide +kernel
theorem dN_append_37 : decode cN_append 37 = .ok (.iconst 1, 1) := by decide +kernel
theorem dN_append_38 : decode cN_append 38 = .ok (.iadd, 1) := by decide +kernel
theorem dN_append_39 : decode cN_append 39 = .ok (.putfield 13, 3) := by decide +kernel
theorem dN_append_42 : decode cN_append 42 = .ok (.iinc 2 (-8), 3) := by decide +kernel
theorem dN_append_45 : decode cN_append 45 = .ok (.goto (-42), 3) := by decide +kernel
theorem dN_append_48 : decode cN_append 48 = .ok (.return_, 1) := by decide +kernel
abbrev rmkN_append : Room := { frames := 0, cells := 0, slots := 0, locals := 0 }
set_option maxHeartbeats 4000000 in
set_option maxRecDepth 100000 in
theorem kN_append (l : Launch) (D : va_G) (E : ur_Ev) (h : ur_M) (q : Nat) (q1 : Nat) (b : Nat → Int32) (n : Nat) (v : Int32) (f0 : h q = some (.inr (2, [.ref q1, .int (nI n)]))) (f1 : h q1 = some (.inl (E.1 1, 400, .inl b))) (hn : n + 4 ≤ 400) : ur_Mv l yN_append wsN_append rmkN_append D vwCl (ur_v E) [.ref q, .int v] h (fun h2 => h2 = va_up (va_up h q1 (some (.inl (E.1 1, 400, .inl (um_app b n v))))) q (some (.inr (2, [.ref q1, .int (nI (n + 1 + 1 + 1 + 1))])))) 0 0 := by
  intro sz
  refine ur_of (cc := cN_append) (maxL := 3) (ret := none) (by decide) rfl (Nat.le_of_ble_eq_true rfl) ?_
  intro p e s m args below meth c ls Q hsz hx hb hml hr hlocks hnm hown hts hO hK hI hQ hl
  subst hsz
  have hV := hK.1
  have hts : ∀ w ∈ ur_G, w.before args s = true := fun w hw => hts w (List.mem_cons_of_mem _ hw)
  have hZ : ur_Z E (ur_A h s.heap.size) s s.heap := hO.1
  have hown : s.vm.findClass "UnitRoom$InputTape" = some m.cls := hown
  have hl : lv_has ls 3 [(0, .ref q), (1, .int v)] := hl
  have hne : q1 ≠ q := ur_ne f1 f0 (by intro z; simp at z)
  refine lv_bipush (v := 24) hx hb dN_append_0 (by decide) ?_
  refine lv_istore_n (lv' := [(2, .int 24), (0, .ref q), (1, .int v)]) hx hb dN_append_2 rfl hl (by decide) rfl (fun ls hl => ?_)
  refine lv_iload_n hx hb dN_append_3 rfl (lv_at hl 0 rfl) ?_
  refine lv_if_lt (tgt := 48) hx hb dN_append_4 (by decide) (fun c1 => absurd c1 (by decide)) (fun c1 => ?_)
  refine lv_aload_n hx hb dN_append_7 rfl (lv_at hl 1 rfl) ?_
  refine va_get (D := D) (ci := 2) (v := .int (nI n)) (C := "UnitRoom$InputTape") (T := TN) (N := 2) hx hb hts inN hown hV (ur_one hI.1 f0) 0 rfl rfl 1 (by decide) (hts _ mw44) (fun _ h9 => h9) rfl dN_append_8 ?_
  refine lv_aload_n hx hb dN_append_11 rfl (lv_at hl 1 rfl) ?_
  refine va_get (D := D) (ci := 2) (v := .ref q1) (C := "UnitRoom$InputTape") (T := TN) (N := 2) hx hb hts inN hown hV (ur_one hI.1 f0) 0 rfl rfl 0 (by decide) (hts _ mw43) (fun _ h9 => h9) rfl dN_append_12 ?_
  refine va_alen (v := 400) hx hb hV (ur_one hI.1 f1) 0 1 rfl rfl rfl dN_append_15 ?_
  refine lv_icmp_ge (tgt := 48) hx hb dN_append_16 (by decide) (fun c2 => absurd c2 (by (try simp only [nI_1]); exact nI_ge (b := 400) (by omega) (by decide))) (fun c2 => ?_)
  refine lv_aload_n hx hb dN_append_19 rfl (lv_at hl 1 rfl) ?_
  refine va_get (D := D) (ci := 2) (v := .ref q1) (C := "UnitRoom$InputTape") (T := TN) (N := 2) hx hb hts inN hown hV (ur_one hI.1 f0) 0 rfl rfl 0 (by decide) (hts _ mw43) (fun _ h9 => h9) rfl dN_append_20 ?_
  refine lv_aload_n hx hb dN_append_23 rfl (lv_at hl 1 rfl) ?_
  refine va_get (D := D) (ci := 2) (v := .int (nI n)) (C := "UnitRoom$InputTape") (T := TN) (N := 2) hx hb hts inN hown hV (ur_one hI.1 f0) 0 rfl rfl 1 (by decide) (hts _ mw44) (fun _ h9 => h9) rfl dN_append_24 ?_
  refine lv_iload_n hx hb dN_append_27 rfl (lv_at hl 2 rfl) ?_
  refine lv_iload_n hx hb dN_append_28 rfl (lv_at hl 0 rfl) ?_
  refine lv_ishr hx hb dN_append_29 ?_
  refine lv_i2b hx hb dN_append_30 rfl ?_
  refine ur_bast hx hb hV hI 1 f1 rfl (by (try simp only [nI_1]); exact vp_in_nI (by omega) (by decide)) dN_append_31 (fun H locs hI => ?_)
  obtain ⟨h3, eh3⟩ : ∃ z : ur_M, z = va_up h q1 (some (.inl (E.1 1, 400, .inl (upd b (Int32.toNatClampNeg (nI n)) (vp_nar .byte ((v >>> ((24 : Int32) &&& 31)).toInt8.toInt32)))))) := ⟨_, rfl⟩
  replace hI : ur_I D vwCl (ur_A h s.heap.size) s.heap h3 H locs := by rw [eh3]; exact hI
  have q4 : h3 q = some (.inr (2, [.ref q1, .int (nI n)])) := by rw [eh3]; exact ((va_up_ne _ _ (Ne.symm hne)).trans f0)
  have q5 : h3 q1 = some (.inl (E.1 1, 400, .inl (upd b (Int32.toNatClampNeg (nI n)) (vp_nar .byte ((v >>> ((24 : Int32) &&& 31)).toInt8.toInt32))))) := by rw [eh3]; exact (va_up_self _ _ _)
  refine lv_aload_n hx hb dN_append_32 rfl (lv_at hl 1 rfl) ?_
  refine lv_dup hx hb dN_append_33 rfl ?_
  refine va_get (D := D) (ci := 2) (v := .int (nI n)) (C := "UnitRoom$InputTape") (T := TN) (N := 2) hx hb hts inN hown hV (ur_one hI.1 q4) 0 rfl rfl 1 (by decide) (hts _ mw44) (fun _ h9 => h9) rfl dN_append_34 ?_
  refine lv_iconst (v := 1) hx hb dN_append_37 (by decide) ?_
  refine lv_iadd hx hb dN_append_38 ?_
  refine ur_put (D := D) (ci := 2) (v := .int ((nI n) + 1)) (ty := .int) (C := "UnitRoom$InputTape") (T := TN) (N := 2) hx hb hts inN tyN tyN_ok nmN hown hV hI q4 rfl 1 (by decide) (hts _ mw44) (fun _ h9 => h9) rfl (by decide +kernel) rfl rfl (Nat.le_of_ble_eq_true rfl) dN_append_39 (fun H locs hI => ?_)
  obtain ⟨h6, eh6⟩ : ∃ z : ur_M, z = va_up h3 q (some (.inr (2, [.ref q1, .int ((nI n) + 1)]))) := ⟨_, rfl⟩
  replace hI : ur_I D vwCl (ur_A h s.heap.size) s.heap h6 H locs := by rw [eh6]; exact hI
  have q7 : h6 q = some (.inr (2, [.ref q1, .int ((nI n) + 1)])) := by rw [eh6]; exact (va_up_self _ _ _)
  have q8 : h6 q1 = some (.inl (E.1 1, 400, .inl (upd b (Int32.toNatClampNeg (nI n)) (vp_nar .byte ((v >>> ((24 : Int32) &&& 31)).toInt8.toInt32))))) := by rw [eh6]; exact ((va_up_ne _ _ hne).trans q5)
  refine lv_iinc (v := 16) (lv' := [(2, .int 16), (0, .ref q), (1, .int v)]) hx hb dN_append_42 hl (k := 0) rfl (by decide) (by decide) rfl (fun ls hl => ?_)
  refine lv_goto (tgt := 3) hx hb dN_append_45 (by decide) ?_
  refine lv_iload_n hx hb dN_append_3 rfl (lv_at hl 0 rfl) ?_
  refine lv_if_lt (tgt := 48) hx hb dN_append_4 (by decide) (fun c9 => absurd c9 (by decide)) (fun c9 => ?_)
  refine lv_aload_n hx hb dN_append_7 rfl (lv_at hl 1 rfl) ?_
  refine va_get (D := D) (ci := 2) (v := .int ((nI n) + 1)) (C := "UnitRoom$InputTape") (T := TN) (N := 2) hx hb hts inN hown hV (ur_one hI.1 q7) 0 rfl rfl 1 (by decide) (hts _ mw44) (fun _ h9 => h9) rfl dN_append_8 ?_
  refine lv_aload_n hx hb dN_append_11 rfl (lv_at hl 1 rfl) ?_
  refine va_get (D := D) (ci := 2) (v := .ref q1) (C := "UnitRoom$InputTape") (T := TN) (N := 2) hx hb hts inN hown hV (ur_one hI.1 q7) 0 rfl rfl 0 (by decide) (hts _ mw43) (fun _ h9 => h9) rfl dN_append_12 ?_
  refine va_alen (v := 400) hx hb hV (ur_one hI.1 q8) 0 1 rfl rfl rfl dN_append_15 ?_
  refine lv_icmp_ge (tgt := 48) hx hb dN_append_16 (by decide) (fun c10 => absurd c10 (by (try simp only [nI_1]); exact nI_ge (b := 400) (by omega) (by decide))) (fun c10 => ?_)
  refine lv_aload_n hx hb dN_append_19 rfl (lv_at hl 1 rfl) ?_
  refine va_get (D := D) (ci := 2) (v := .ref q1) (C := "UnitRoom$InputTape") (T := TN) (N := 2) hx hb hts inN hown hV (ur_one hI.1 q7) 0 rfl rfl 0 (by decide) (hts _ mw43) (fun _ h9 => h9) rfl dN_append_20 ?_
  refine lv_aload_n hx hb dN_append_23 rfl (lv_at hl 1 rfl) ?_
  refine va_get (D := D) (ci := 2) (v := .int ((nI n) + 1)) (C := "UnitRoom$InputTape") (T := TN) (N := 2) hx hb hts inN hown hV (ur_one hI.1 q7) 0 rfl rfl 1 (by decide) (hts _ mw44) (fun _ h9 => h9) rfl dN_append_24 ?_
  refine lv_iload_n hx hb dN_append_27 rfl (lv_at hl 2 rfl) ?_
  refine lv_iload_n hx hb dN_append_28 rfl (lv_at hl 0 rfl) ?_
  refine lv_ishr hx hb dN_append_29 ?_
  refine lv_i2b hx hb dN_append_30 rfl ?_
  refine ur_bast hx hb hV hI 1 q8 rfl (by (try simp only [nI_1]); exact vp_in_nI (by omega) (by decide)) dN_append_31 (fun H locs hI => ?_)
  obtain ⟨h11, eh11⟩ : ∃ z : ur_M, z = va_up h6 q1 (some (.inl (E.1 1, 400, .inl (upd (upd b (Int32.toNatClampNeg (nI n)) (vp_nar .byte ((v >>> ((24 : Int32) &&& 31)).toInt8.toInt32))) (Int32.toNatClampNeg ((nI n) + 1)) (vp_nar .byte ((v >>> ((16 : Int32) &&& 31)).toInt8.toInt32)))))) := ⟨_, rfl⟩
  replace hI : ur_I D vwCl (ur_A h s.heap.size) s.heap h11 H locs := by rw [eh11]; exact hI
  have q12 : h11 q = some (.inr (2, [.ref q1, .int ((nI n) + 1)])) := by rw [eh11]; exact ((va_up_ne _ _ (Ne.symm hne)).trans q7)
  have q13 : h11 q1 = some (.inl (E.1 1, 400, .inl (upd (upd b (Int32.toNatClampNeg (nI n)) (vp_nar .byte ((v >>> ((24 : Int32) &&& 31)).toInt8.toInt32))) (Int32.toNatClampNeg ((nI n) + 1)) (vp_nar .byte ((v >>> ((16 : Int32) &&& 31)).toInt8.toInt32))))) := by rw [eh11]; exact (va_up_self _ _ _)
  refine lv_aload_n hx hb dN_append_32 rfl (lv_at hl 1 rfl) ?_
  refine lv_dup hx hb dN_append_33 rfl ?_
  refine va_get (D := D) (ci := 2) (v := .int ((nI n) + 1)) (C := "UnitRoom$InputTape") (T := TN) (N := 2) hx hb hts inN hown hV (ur_one hI.1 q12) 0 rfl rfl 1 (by decide) (hts _ mw44) (fun _ h9 => h9) rfl dN_append_34 ?_
  refine lv_iconst (v := 1) hx hb dN_append_37 (by decide) ?_
  refine lv_iadd hx hb dN_append_38 ?_
  refine ur_put (D := D) (ci := 2) (v := .int (((nI n) + 1) + 1)) (ty := .int) (C := "UnitRoom$InputTape") (T := TN) (N := 2) hx hb hts inN tyN tyN_ok nmN hown hV hI q12 rfl 1 (by decide) (hts _ mw44) (fun _ h9 => h9) rfl (by decide +kernel) rfl rfl (Nat.le_of_ble_eq_true rfl) dN_append_39 (fun H locs hI => ?_)
  obtain ⟨h14, eh14⟩ : ∃ z : ur_M, z = va_up h11 q (some (.inr (2, [.ref q1, .int (((nI n) + 1) + 1)]))) := ⟨_, rfl⟩
  replace hI : ur_I D vwCl (ur_A h s.heap.size) s.heap h14 H locs := by rw [eh14]; exact hI
  have q15 : h14 q = some (.inr (2, [.ref q1, .int (((nI n) + 1) + 1)])) := by rw [eh14]; exact (va_up_self _ _ _)
  have q16 : h14 q1 = some (.inl (E.1 1, 400, .inl (upd (upd b (Int32.toNatClampNeg (nI n)) (vp_nar .byte ((v >>> ((24 : Int32) &&& 31)).toInt8.toInt32))) (Int32.toNatClampNeg ((nI n) + 1)) (vp_nar .byte ((v >>> ((16 : Int32) &&& 31)).toInt8.toInt32))))) := by rw [eh14]; exact ((va_up_ne _ _ hne).trans q13)
  refine lv_iinc (v := 8) (lv' := [(2, .int 8), (0, .ref q), (1, .int v)]) hx hb dN_append_42 hl (k := 0) rfl (by decide) (by decide) rfl (fun ls hl => ?_)
  refine lv_goto (tgt := 3) hx hb dN_append_45 (by decide) ?_
  refine lv_iload_n hx hb dN_append_3 rfl (lv_at hl 0 rfl) ?_
  refine lv_if_lt (tgt := 48) hx hb dN_append_4 (by decide) (fun c17 => absurd c17 (by decide)) (fun c17 => ?_)
  refine lv_aload_n hx hb dN_append_7 rfl (lv_at hl 1 rfl) ?_
  refine va_get (D := D) (ci := 2) (v := .int (((nI n) + 1) + 1)) (C := "UnitRoom$InputTape") (T := TN) (N := 2) hx hb hts inN hown hV (ur_one hI.1 q15) 0 rfl rfl 1 (by decide) (hts _ mw44) (fun _ h9 => h9) rfl dN_append_8 ?_
  refine lv_aload_n hx hb dN_append_11 rfl (lv_at hl 1 rfl) ?_
  refine va_get (D := D) (ci := 2) (v := .ref q1) (C := "UnitRoom$InputTape") (T := TN) (N := 2) hx hb hts inN hown hV (ur_one hI.1 q15) 0 rfl rfl 0 (by decide) (hts _ mw43) (fun _ h9 => h9) rfl dN_append_12 ?_
  refine va_alen (v := 400) hx hb hV (ur_one hI.1 q16) 0 1 rfl rfl rfl dN_append_15 ?_
  refine lv_icmp_ge (tgt := 48) hx hb dN_append_16 (by decide) (fun c18 => absurd c18 (by (try simp only [nI_1]); exact nI_ge (b := 400) (by omega) (by decide))) (fun c18 => ?_)
  refine lv_aload_n hx hb dN_append_19 rfl (lv_at hl 1 rfl) ?_
  refine va_get (D := D) (ci := 2) (v := .ref q1) (C := "UnitRoom$InputTape") (T := TN) (N := 2) hx hb hts inN hown hV (ur_one hI.1 q15) 0 rfl rfl 0 (by decide) (hts _ mw43) (fun _ h9 => h9) rfl dN_append_20 ?_
  refine lv_aload_n hx hb dN_append_23 rfl (lv_at hl 1 rfl) ?_
  refine va_get (D := D) (ci := 2) (v := .int (((nI n) + 1) + 1)) (C := "UnitRoom$InputTape") (T := TN) (N := 2) hx hb hts inN hown hV (ur_one hI.1 q15) 0 rfl rfl 1 (by decide) (hts _ mw44) (fun _ h9 => h9) rfl dN_append_24 ?_
  refine lv_iload_n hx hb dN_append_27 rfl (lv_at hl 2 rfl) ?_
  refine lv_iload_n hx hb dN_append_28 rfl (lv_at hl 0 rfl) ?_
  refine lv_ishr hx hb dN_append_29 ?_
  refine lv_i2b hx hb dN_append_30 rfl ?_
  refine ur_bast hx hb hV hI 1 q16 rfl (by (try simp only [nI_1]); exact vp_in_nI (by omega) (by decide)) dN_append_31 (fun H locs hI => ?_)
  obtain ⟨h19, eh19⟩ : ∃ z : ur_M, z = va_up h14 q1 (some (.inl (E.1 1, 400, .inl (upd (upd (upd b (Int32.toNatClampNeg (nI n)) (vp_nar .byte ((v >>> ((24 : Int32) &&& 31)).toInt8.toInt32))) (Int32.toNatClampNeg ((nI n) + 1)) (vp_nar .byte ((v >>> ((16 : Int32) &&& 31)).toInt8.toInt32))) (Int32.toNatClampNeg (((nI n) + 1) + 1)) (vp_nar .byte ((v >>> ((8 : Int32) &&& 31)).toInt8.toInt32)))))) := ⟨_, rfl⟩
  replace hI : ur_I D vwCl (ur_A h s.heap.size) s.heap h19 H locs := by rw [eh19]; exact hI
  have q20 : h19 q = some (.inr (2, [.ref q1, .int (((nI n) + 1) + 1)])) := by rw [eh19]; exact ((va_up_ne _ _ (Ne.symm hne)).trans q15)
  have q21 : h19 q1 = some (.inl (E.1 1, 400, .inl (upd (upd (upd b (Int32.toNatClampNeg (nI n)) (vp_nar .byte ((v >>> ((24 : Int32) &&& 31)).toInt8.toInt32))) (Int32.toNatClampNeg ((nI n) + 1)) (vp_nar .byte ((v >>> ((16 : Int32) &&& 31)).toInt8.toInt32))) (Int32.toNatClampNeg (((nI n) + 1) + 1)) (vp_nar .byte ((v >>> ((8 : Int32) &&& 31)).toInt8.toInt32))))) := by rw [eh19]; exact (va_up_self _ _ _)
  refine lv_aload_n hx hb dN_append_32 rfl (lv_at hl 1 rfl) ?_
  refine lv_dup hx hb dN_append_33 rfl ?_
  refine va_get (D := D) (ci := 2) (v := .int (((nI n) + 1) + 1)) (C := "UnitRoom$InputTape") (T := TN) (N := 2) hx hb hts inN hown hV (ur_one hI.1 q20) 0 rfl rfl 1 (by decide) (hts _ mw44) (fun _ h9 => h9) rfl dN_append_34 ?_
  refine lv_iconst (v := 1) hx hb dN_append_37 (by decide) ?_
  refine lv_iadd hx hb dN_append_38 ?_
  refine ur_put (D := D) (ci := 2) (v := .int ((((nI n) + 1) + 1) + 1)) (ty := .int) (C := "UnitRoom$InputTape") (T := TN) (N := 2) hx hb hts inN tyN tyN_ok nmN hown hV hI q20 rfl 1 (by decide) (hts _ mw44) (fun _ h9 => h9) rfl (by decide +kernel) rfl rfl (Nat.le_of_ble_eq_true rfl) dN_append_39 (fun H locs hI => ?_)
  obtain ⟨h22, eh22⟩ : ∃ z : ur_M, z = va_up h19 q (some (.inr (2, [.ref q1, .int ((((nI n) + 1) + 1) + 1)]))) := ⟨_, rfl⟩
  replace hI : ur_I D vwCl (ur_A h s.heap.size) s.heap h22 H locs := by rw [eh22]; exact hI
  have q23 : h22 q = some (.inr (2, [.ref q1, .int ((((nI n) + 1) + 1) + 1)])) := by rw [eh22]; exact (va_up_self _ _ _)
  have q24 : h22 q1 = some (.inl (E.1 1, 400, .inl (upd (upd (upd b (Int32.toNatClampNeg (nI n)) (vp_nar .byte ((v >>> ((24 : Int32) &&& 31)).toInt8.toInt32))) (Int32.toNatClampNeg ((nI n) + 1)) (vp_nar .byte ((v >>> ((16 : Int32) &&& 31)).toInt8.toInt32))) (Int32.toNatClampNeg (((nI n) + 1) + 1)) (vp_nar .byte ((v >>> ((8 : Int32) &&& 31)).toInt8.toInt32))))) := by rw [eh22]; exact ((va_up_ne _ _ hne).trans q21)
  refine lv_iinc (v := 0) (lv' := [(2, .int 0), (0, .ref q), (1, .int v)]) hx hb dN_append_42 hl (k := 0) rfl (by decide) (by decide) rfl (fun ls hl => ?_)
  refine lv_goto (tgt := 3) hx hb dN_append_45 (by decide) ?_
  refine lv_iload_n hx hb dN_append_3 rfl (lv_at hl 0 rfl) ?_
  refine lv_if_lt (tgt := 48) hx hb dN_append_4 (by decide) (fun c25 => absurd c25 (by decide)) (fun c25 => ?_)
  refine lv_aload_n hx hb dN_append_7 rfl (lv_at hl 1 rfl) ?_
  refine va_get (D := D) (ci := 2) (v := .int ((((nI n) + 1) + 1) + 1)) (C := "UnitRoom$InputTape") (T := TN) (N := 2) hx hb hts inN hown hV (ur_one hI.1 q23) 0 rfl rfl 1 (by decide) (hts _ mw44) (fun _ h9 => h9) rfl dN_append_8 ?_
  refine lv_aload_n hx hb dN_append_11 rfl (lv_at hl 1 rfl) ?_
  refine va_get (D := D) (ci := 2) (v := .ref q1) (C := "UnitRoom$InputTape") (T := TN) (N := 2) hx hb hts inN hown hV (ur_one hI.1 q23) 0 rfl rfl 0 (by decide) (hts _ mw43) (fun _ h9 => h9) rfl dN_append_12 ?_
  refine va_alen (v := 400) hx hb hV (ur_one hI.1 q24) 0 1 rfl rfl rfl dN_append_15 ?_
  refine lv_icmp_ge (tgt := 48) hx hb dN_append_16 (by decide) (fun c26 => absurd c26 (by (try simp only [nI_1]); exact nI_ge (b := 400) (by omega) (by decide))) (fun c26 => ?_)
  refine lv_aload_n hx hb dN_append_19 rfl (lv_at hl 1 rfl) ?_
  refine va_get (D := D) (ci := 2) (v := .ref q1) (C := "UnitRoom$InputTape") (T := TN) (N := 2) hx hb hts inN hown hV (ur_one hI.1 q23) 0 rfl rfl 0 (by decide) (hts _ mw43) (fun _ h9 => h9) rfl dN_append_20 ?_
  refine lv_aload_n hx hb dN_append_23 rfl (lv_at hl 1 rfl) ?_
  refine va_get (D := D) (ci := 2) (v := .int ((((nI n) + 1) + 1) + 1)) (C := "UnitRoom$InputTape") (T := TN) (N := 2) hx hb hts inN hown hV (ur_one hI.1 q23) 0 rfl rfl 1 (by decide) (hts _ mw44) (fun _ h9 => h9) rfl dN_append_24 ?_
  refine lv_iload_n hx hb dN_append_27 rfl (lv_at hl 2 rfl) ?_
  refine lv_iload_n hx hb dN_append_28 rfl (lv_at hl 0 rfl) ?_
  refine lv_ishr hx hb dN_append_29 ?_
  refine lv_i2b hx hb dN_append_30 rfl ?_
  refine ur_bast hx hb hV hI 1 q24 rfl (by (try simp only [nI_1]); exact vp_in_nI (by omega) (by decide)) dN_append_31 (fun H locs hI => ?_)
  obtain ⟨h27, eh27⟩ : ∃ z : ur_M, z = va_up h22 q1 (some (.inl (E.1 1, 400, .inl (upd (upd (upd (upd b (Int32.toNatClampNeg (nI n)) (vp_nar .byte ((v >>> ((24 : Int32) &&& 31)).toInt8.toInt32))) (Int32.toNatClampNeg ((nI n) + 1)) (vp_nar .byte ((v >>> ((16 : Int32) &&& 31)).toInt8.toInt32))) (Int32.toNatClampNeg (((nI n) + 1) + 1)) (vp_nar .byte ((v >>> ((8 : Int32) &&& 31)).toInt8.toInt32))) (Int32.toNatClampNeg ((((nI n) + 1) + 1) + 1)) (vp_nar .byte ((v >>> ((0 : Int32) &&& 31)).toInt8.toInt32)))))) := ⟨_, rfl⟩
  replace hI : ur_I D vwCl (ur_A h s.heap.size) s.heap h27 H locs := by rw [eh27]; exact hI
  have q28 : h27 q = some (.inr (2, [.ref q1, .int ((((nI n) + 1) + 1) + 1)])) := by rw [eh27]; exact ((va_up_ne _ _ (Ne.symm hne)).trans q23)
  have q29 : h27 q1 = some (.inl (E.1 1, 400, .inl (upd (upd (upd (upd b (Int32.toNatClampNeg (nI n)) (vp_nar .byte ((v >>> ((24 : Int32) &&& 31)).toInt8.toInt32))) (Int32.toNatClampNeg ((nI n) + 1)) (vp_nar .byte ((v >>> ((16 : Int32) &&& 31)).toInt8.toInt32))) (Int32.toNatClampNeg (((nI n) + 1) + 1)) (vp_nar .byte ((v >>> ((8 : Int32) &&& 31)).toInt8.toInt32))) (Int32.toNatClampNeg ((((nI n) + 1) + 1) + 1)) (vp_nar .byte ((v >>> ((0 : Int32) &&& 31)).toInt8.toInt32))))) := by rw [eh27]; exact (va_up_self _ _ _)
  refine lv_aload_n hx hb dN_append_32 rfl (lv_at hl 1 rfl) ?_
  refine lv_dup hx hb dN_append_33 rfl ?_
  refine va_get (D := D) (ci := 2) (v := .int ((((nI n) + 1) + 1) + 1)) (C := "UnitRoom$InputTape") (T := TN) (N := 2) hx hb hts inN hown hV (ur_one hI.1 q28) 0 rfl rfl 1 (by decide) (hts _ mw44) (fun _ h9 => h9) rfl dN_append_34 ?_
  refine lv_iconst (v := 1) hx hb dN_append_37 (by decide) ?_
  refine lv_iadd hx hb dN_append_38 ?_
  refine ur_put (D := D) (ci := 2) (v := .int (((((nI n) + 1) + 1) + 1) + 1)) (ty := .int) (C := "UnitRoom$InputTape") (T := TN) (N := 2) hx hb hts inN tyN tyN_ok nmN hown hV hI q28 rfl 1 (by decide) (hts _ mw44) (fun _ h9 => h9) rfl (by decide +kernel) rfl rfl (Nat.le_of_ble_eq_true rfl) dN_append_39 (fun H locs hI => ?_)
  obtain ⟨h30, eh30⟩ : ∃ z : ur_M, z = va_up h27 q (some (.inr (2, [.ref q1, .int (((((nI n) + 1) + 1) + 1) + 1)]))) := ⟨_, rfl⟩
  replace hI : ur_I D vwCl (ur_A h s.heap.size) s.heap h30 H locs := by rw [eh30]; exact hI
  have q31 : h30 q = some (.inr (2, [.ref q1, .int (((((nI n) + 1) + 1) + 1) + 1)])) := by rw [eh30]; exact (va_up_self _ _ _)
  have q32 : h30 q1 = some (.inl (E.1 1, 400, .inl (upd (upd (upd (upd b (Int32.toNatClampNeg (nI n)) (vp_nar .byte ((v >>> ((24 : Int32) &&& 31)).toInt8.toInt32))) (Int32.toNatClampNeg ((nI n) + 1)) (vp_nar .byte ((v >>> ((16 : Int32) &&& 31)).toInt8.toInt32))) (Int32.toNatClampNeg (((nI n) + 1) + 1)) (vp_nar .byte ((v >>> ((8 : Int32) &&& 31)).toInt8.toInt32))) (Int32.toNatClampNeg ((((nI n) + 1) + 1) + 1)) (vp_nar .byte ((v >>> ((0 : Int32) &&& 31)).toInt8.toInt32))))) := by rw [eh30]; exact ((va_up_ne _ _ hne).trans q29)
  refine lv_iinc (v := (-8)) (lv' := [(2, .int (-8)), (0, .ref q), (1, .int v)]) hx hb dN_append_42 hl (k := 0) rfl (by decide) (by decide) rfl (fun ls hl => ?_)
  refine lv_goto (tgt := 3) hx hb dN_append_45 (by decide) ?_
  refine lv_iload_n hx hb dN_append_3 rfl (lv_at hl 0 rfl) ?_
  refine lv_if_lt (tgt := 48) hx hb dN_append_4 (by decide) (fun c33 => ?_) (fun c33 => absurd c33 (by decide))
  exact ur_rv hx hb hr hlocks hI hQ (by rw [eh30, eh27, eh22, eh19, eh14, eh11, eh6, eh3, ur_alt hne, ur_alt hne, ur_alt hne]; simp only [nI_1, nI_clamp (show n < 2 ^ 31 by omega), nI_clamp (show n + 1 < 2 ^ 31 by omega), nI_clamp (show n + 1 + 1 < 2 ^ 31 by omega), nI_clamp (show n + 1 + 1 + 1 < 2 ^ 31 by omega)]; rfl) dN_append_48
theorem dN_cut_0 : decode cN_cut 0 = .ok (.iload_n 1, 1) := by decide +kernel
theorem dN_cut_1 : decode cN_cut 1 = .ok (.ifCond .lt 11, 3) := by decide +kernel
theorem dN_cut_4 : decode cN_cut 4 = .ok (.iload_n 1, 1) := by decide +kernel
theorem dN_cut_5 : decode cN_cut 5 = .ok (.aload_n 0, 1) := by decide +kernel
theorem dN_cut_6 : decode cN_cut 6 = .ok (.getfield 13, 3) := by decide +kernel
theorem dN_cut_9 : decode cN_cut 9 = .ok (.if_icmp .le 5, 3) := by decide +kernel
theorem dN_cut_12 : decode cN_cut 12 = .ok (.iconst 0, 1) := by decide +kernel
theorem dN_cut_13 : decode cN_cut 13 = .ok (.ireturn, 1) := by decide +kernel
theorem dN_cut_14 : decode cN_cut 14 = .ok (.aload_n 0, 1) := by decide +kernel
theorem dN_cut_15 : decode cN_cut 15 = .ok (.iload_n 1, 1) := by decide +kernel
theorem dN_cut_16 : decode cN_cut 16 = .ok (.putfield 13, 3) := by decide +kernel
theorem dN_cut_19 : decode cN_cut 19 = .ok (.iconst 1, 1) := by decide +kernel
theorem dN_cut_20 : decode cN_cut 20 = .ok (.ireturn, 1) := by decide +kernel
abbrev rmkN_cut : Room := { frames := 0, cells := 0, slots := 0, locals := 0 }
set_option maxHeartbeats 4000000 in
set_option maxRecDepth 100000 in
theorem kN_cut (l : Launch) (D : va_G) (E : ur_Ev) (h : ur_M) (q : Nat) (q1 : Nat) (x : Int32) (n : Int32) (f0 : h q = some (.inr (2, [.ref q1, .int x])))  : ur_Mi l yN_cut wsN_cut rmkN_cut D vwCl (ur_v E) [.ref q, .int n] h (fun r h2 => r = um_b (um_cutok x n) ∧ h2 = va_up h q (some (.inr (2, [.ref q1, .int (um_cutn x n)])))) 0 0 := by
  intro sz
  refine ur_of (cc := cN_cut) (maxL := 2) (ret := (some .boolean)) (by decide) rfl (Nat.le_of_ble_eq_true rfl) ?_
  intro p e s m args below meth c ls Q hsz hx hb hml hr hlocks hnm hown hts hO hK hI hQ hl
  subst hsz
  have hV := hK.1
  have hts : ∀ w ∈ ur_G, w.before args s = true := fun w hw => hts w (List.mem_cons_of_mem _ hw)
  have hZ : ur_Z E (ur_A h s.heap.size) s s.heap := hO.1
  have hown : s.vm.findClass "UnitRoom$InputTape" = some m.cls := hown
  have hl : lv_has ls 2 [(0, .ref q), (1, .int n)] := hl
  refine lv_iload_n hx hb dN_cut_0 rfl (lv_at hl 1 rfl) ?_
  refine lv_if_lt (tgt := 12) hx hb dN_cut_1 (by decide) (fun c1 => ?_) (fun c1 => ?_)
  · refine lv_iconst (v := 0) hx hb dN_cut_12 (by decide) ?_
    exact ur_rz hx hb hr hlocks hI hQ rfl ⟨(by simp only [um_cutok, c1, ↓reduceIte]; rfl), (by rw [show um_cutn x n = x by simp only [um_cutn, c1, ↓reduceIte]]; exact (ur_same f0).symm)⟩ dN_cut_13
  · refine lv_iload_n hx hb dN_cut_4 rfl (lv_at hl 1 rfl) ?_
    refine lv_aload_n hx hb dN_cut_5 rfl (lv_at hl 0 rfl) ?_
    refine va_get (D := D) (ci := 2) (v := .int x) (C := "UnitRoom$InputTape") (T := TN) (N := 2) hx hb hts inN hown hV (ur_one hI.1 f0) 0 rfl rfl 1 (by decide) (hts _ mw44) (fun _ h9 => h9) rfl dN_cut_6 ?_
    refine lv_icmp_le (tgt := 14) hx hb dN_cut_9 (by decide) (fun c2 => ?_) (fun c2 => ?_)
    · refine lv_aload_n hx hb dN_cut_14 rfl (lv_at hl 0 rfl) ?_
      refine lv_iload_n hx hb dN_cut_15 rfl (lv_at hl 1 rfl) ?_
      refine ur_put (D := D) (ci := 2) (v := .int n) (ty := .int) (C := "UnitRoom$InputTape") (T := TN) (N := 2) hx hb hts inN tyN tyN_ok nmN hown hV hI f0 rfl 1 (by decide) (hts _ mw44) (fun _ h9 => h9) rfl (by decide +kernel) rfl rfl (Nat.le_of_ble_eq_true rfl) dN_cut_16 (fun H locs hI => ?_)
      obtain ⟨h3, eh3⟩ : ∃ z : ur_M, z = va_up h q (some (.inr (2, [.ref q1, .int n]))) := ⟨_, rfl⟩
      replace hI : ur_I D vwCl (ur_A h s.heap.size) s.heap h3 H locs := by rw [eh3]; exact hI
      have q4 : h3 q = some (.inr (2, [.ref q1, .int n])) := by rw [eh3]; exact (va_up_self _ _ _)
      refine lv_iconst (v := 1) hx hb dN_cut_19 (by decide) ?_
      exact ur_rz hx hb hr hlocks hI hQ rfl ⟨(by simp only [um_cutok, c1, c2, ↓reduceIte]; rfl), (by rw [show um_cutn x n = n by simp only [um_cutn, c1, c2, ↓reduceIte], eh3])⟩ dN_cut_20
    · refine lv_iconst (v := 0) hx hb dN_cut_12 (by decide) ?_
      exact ur_rz hx hb hr hlocks hI hQ rfl ⟨(by simp only [um_cutok, c1, c2, ↓reduceIte]; rfl), (by rw [show um_cutn x n = x by simp only [um_cutn, c1, c2, ↓reduceIte]]; exact (ur_same f0).symm)⟩ dN_cut_13
theorem um_in400 {x : Int32} {n : Nat} (h0 : ¬ x < 0) (h1 : x < nI n) (hn : n ≤ 400) : vp_in x 400 := by
  obtain ⟨j, hj, rfl⟩ := nI_of h0
  exact vp_in_nI (Nat.lt_of_lt_of_le ((nI_ltI hj (by omega)).mp h1) hn) (by decide)
theorem dN_codeAt_0 : decode cN_codeAt 0 = .ok (.iload_n 1, 1) := by decide +kernel
theorem dN_codeAt_1 : decode cN_codeAt 1 = .ok (.ifCond .lt 11, 3) := by decide +kernel
theorem dN_codeAt_4 : decode cN_codeAt 4 = .ok (.iload_n 1, 1) := by decide +kernel
theorem dN_codeAt_5 : decode cN_codeAt 5 = .ok (.aload_n 0, 1) := by decide +kernel
theorem dN_codeAt_6 : decode cN_codeAt 6 = .ok (.getfield 13, 3) := by decide +kernel
theorem dN_codeAt_9 : decode cN_codeAt 9 = .ok (.if_icmp .lt 7, 3) := by decide +kernel
theorem dN_codeAt_12 : decode cN_codeAt 12 = .ok (.iconst 0, 1) := by decide +kernel
theorem dN_codeAt_13 : decode cN_codeAt 13 = .ok (.goto 16, 3) := by decide +kernel
theorem dN_codeAt_16 : decode cN_codeAt 16 = .ok (.aload_n 0, 1) := by decide +kernel
theorem dN_codeAt_17 : decode cN_codeAt 17 = .ok (.getfield 7, 3) := by decide +kernel
theorem dN_codeAt_20 : decode cN_codeAt 20 = .ok (.iload_n 1, 1) := by decide +kernel
theorem dN_codeAt_21 : decode cN_codeAt 21 = .ok (.baload, 1) := by decide +kernel
theorem dN_codeAt_22 : decode cN_codeAt 22 = .ok (.sipush 255, 3) := by decide +kernel
theorem dN_codeAt_25 : decode cN_codeAt 25 = .ok (.iand, 1) := by decide +kernel
theorem dN_codeAt_26 : decode cN_codeAt 26 = .ok (.invokestatic 17, 3) := by decide +kernel
theorem dN_codeAt_29 : decode cN_codeAt 29 = .ok (.ireturn, 1) := by decide +kernel
abbrev rmkN_codeAt : Room := { frames := 5, cells := 0, slots := 0, locals := 112 }
set_option maxHeartbeats 4000000 in
set_option maxRecDepth 100000 in
theorem kN_codeAt (l : Launch) (D : va_G) (E : ur_Ev) (h : ur_M) (q : Nat) (q1 : Nat) (b : Nat → Int32) (n : Nat) (i : Int32) (f0 : h q = some (.inr (2, [.ref q1, .int (nI n)]))) (f1 : h q1 = some (.inl (E.1 1, 400, .inl b))) (hn : n ≤ 400) : ur_Mi l yN_codeAt wsN_codeAt rmkN_codeAt D vwCl (ur_v E) [.ref q, .int i] h (fun r h2 => r = um_cAt b n i ∧ h2 = h) 0 0 := by
  intro sz
  refine ur_of (cc := cN_codeAt) (maxL := 2) (ret := (some .int)) (by decide) rfl (Nat.le_of_ble_eq_true rfl) ?_
  intro p e s m args below meth c ls Q hsz hx hb hml hr hlocks hnm hown hts hO hK hI hQ hl
  subst hsz
  have hV := hK.1
  have hts : ∀ w ∈ ur_G, w.before args s = true := fun w hw => hts w (List.mem_cons_of_mem _ hw)
  have hZ : ur_Z E (ur_A h s.heap.size) s s.heap := hO.1
  have hown : s.vm.findClass "UnitRoom$InputTape" = some m.cls := hown
  have hl : lv_has ls 2 [(0, .ref q), (1, .int i)] := hl
  refine lv_iload_n hx hb dN_codeAt_0 rfl (lv_at hl 1 rfl) ?_
  refine lv_if_lt (tgt := 12) hx hb dN_codeAt_1 (by decide) (fun c1 => ?_) (fun c1 => ?_)
  · refine lv_iconst (v := 0) hx hb dN_codeAt_12 (by decide) ?_
    refine lv_goto (tgt := 29) hx hb dN_codeAt_13 (by decide) ?_
    exact ur_ri hx hb hr hlocks hI hQ ⟨(by first | (simp only [um_cAt, c1, ↓reduceIte]; done) | (simp only [um_cAt, c1, ↓reduceIte]; rfl) | rfl), rfl⟩ dN_codeAt_29
  · refine lv_iload_n hx hb dN_codeAt_4 rfl (lv_at hl 1 rfl) ?_
    refine lv_aload_n hx hb dN_codeAt_5 rfl (lv_at hl 0 rfl) ?_
    refine va_get (D := D) (ci := 2) (v := .int (nI n)) (C := "UnitRoom$InputTape") (T := TN) (N := 2) hx hb hts inN hown hV (ur_one hI.1 f0) 0 rfl rfl 1 (by decide) (hts _ mw44) (fun _ h9 => h9) rfl dN_codeAt_6 ?_
    refine lv_icmp_lt (tgt := 16) hx hb dN_codeAt_9 (by decide) (fun c2 => ?_) (fun c2 => ?_)
    · refine lv_aload_n hx hb dN_codeAt_16 rfl (lv_at hl 0 rfl) ?_
      refine va_get (D := D) (ci := 2) (v := .ref q1) (C := "UnitRoom$InputTape") (T := TN) (N := 2) hx hb hts inN hown hV (ur_one hI.1 f0) 0 rfl rfl 0 (by decide) (hts _ mw43) (fun _ h9 => h9) rfl dN_codeAt_17 ?_
      refine lv_iload_n hx hb dN_codeAt_20 rfl (lv_at hl 1 rfl) ?_
      refine va_bald hx hb hV (ur_one hI.1 f1) 0 1 rfl rfl (um_in400 c1 c2 hn) dN_codeAt_21 ?_
      refine lv_sipush (v := 255) hx hb dN_codeAt_22 (by decide) ?_
      refine lv_iand hx hb dN_codeAt_25 ?_
      refine ur_xi (va_runSN (As := [.int ((b i.toNatClampNeg) &&& 255)]) (rest := []) ⟨hx, hb, hml, hown, hts⟩ (kU_codeOf l D E h ((b i.toNatClampNeg) &&& 255) s.heap.size) ⟨va_cnB (host := "UnitRoom") 1 hts (ur_gI mw477) rfl rfl rfl (hK.2.1.1 ("UnitRoom$InputTape", 17, ⟨"UnitRoom", "codeOf", "(I)I"⟩, "UnitRoom") (by decide +kernel)) (hts _ mw1) (by decide +kernel) ⟨(Nat.le_of_ble_eq_true rfl), (Nat.le_of_ble_eq_true rfl)⟩, hts _ mw476, trivial⟩ ⟨ur_blind, ur_pre hI hO hK (fun _ _ q => q)⟩ rfl rfl hl.1 rfl (lv_room (Nat.le_of_ble_eq_true rfl)) dN_codeAt_26 ⟨Nat.le_of_ble_eq_true rfl, Nat.le_of_ble_eq_true rfl⟩) hI (fun r3 h3 H locs p3 hI => ?_)
      obtain ⟨er3, eh3⟩ := p3
      replace eh3 := eh3.symm; subst eh3
      replace er3 := er3.symm; subst er3
      exact ur_ri hx hb hr hlocks hI hQ ⟨(by first | (simp only [um_cAt, c1, c2, ↓reduceIte]; done) | (simp only [um_cAt, c1, c2, ↓reduceIte]; rfl) | rfl), rfl⟩ dN_codeAt_29
    · refine lv_iconst (v := 0) hx hb dN_codeAt_12 (by decide) ?_
      refine lv_goto (tgt := 29) hx hb dN_codeAt_13 (by decide) ?_
      exact ur_ri hx hb hr hlocks hI hQ ⟨(by first | (simp only [um_cAt, c1, c2, ↓reduceIte]; done) | (simp only [um_cAt, c1, c2, ↓reduceIte]; rfl) | rfl), rfl⟩ dN_codeAt_29
theorem dR_wordOf_0 : decode cR_wordOf 0 = .ok (.iconst 0, 1) := by decide +kernel
theorem dR_wordOf_1 : decode cR_wordOf 1 = .ok (.istore_n 2, 1) := by decide +kernel
theorem dR_wordOf_2 : decode cR_wordOf 2 = .ok (.iconst 0, 1) := by decide +kernel
theorem dR_wordOf_3 : decode cR_wordOf 3 = .ok (.istore_n 3, 1) := by decide +kernel
theorem dR_wordOf_4 : decode cR_wordOf 4 = .ok (.iload_n 3, 1) := by decide +kernel
theorem dR_wordOf_5 : decode cR_wordOf 5 = .ok (.iconst 5, 1) := by decide +kernel
theorem dR_wordOf_6 : decode cR_wordOf 6 = .ok (.if_icmp .ge 22, 3) := by decide +kernel
theorem dR_wordOf_9 : decode cR_wordOf 9 = .ok (.iload_n 2, 1) := by decide +kernel
theorem dR_wordOf_10 : decode cR_wordOf 10 = .ok (.bipush 6, 2) := by decide +kernel
theorem dR_wordOf_12 : decode cR_wordOf 12 = .ok (.ishl, 1) := by decide +kernel
theorem dR_wordOf_13 : decode cR_wordOf 13 = .ok (.aload_n 0, 1) := by decide +kernel
theorem dR_wordOf_14 : decode cR_wordOf 14 = .ok (.iload_n 1, 1) := by decide +kernel
theorem dR_wordOf_15 : decode cR_wordOf 15 = .ok (.iload_n 3, 1) := by decide +kernel
theorem dR_wordOf_16 : decode cR_wordOf 16 = .ok (.iadd, 1) := by decide +kernel
theorem dR_wordOf_17 : decode cR_wordOf 17 = .ok (.invokevirtual 33, 3) := by decide +kernel
theorem dR_wordOf_20 : decode cR_wordOf 20 = .ok (.ior, 1) := by decide +kernel
theorem dR_wordOf_21 : decode cR_wordOf 21 = .ok (.istore_n 2, 1) := by decide +kernel
theorem dR_wordOf_22 : decode cR_wordOf 22 = .ok (.iinc 3 1, 3) := by decide +kernel
theorem dR_wordOf_25 : decode cR_wordOf 25 = .ok (.goto (-21), 3) := by decide +kernel
theorem dR_wordOf_28 : decode cR_wordOf 28 = .ok (.iload_n 2, 1) := by decide +kernel
theorem dR_wordOf_29 : decode cR_wordOf 29 = .ok (.ireturn, 1) := by decide +kernel
abbrev rmkR_wordOf : Room := { frames := 6, cells := 0, slots := 0, locals := 133 }
set_option maxHeartbeats 4000000 in
set_option maxRecDepth 100000 in
theorem kR_wordOf (l : Launch) (D : va_G) (E : ur_Ev) (h : ur_M) (q : Nat) (q1 : Nat) (b : Nat → Int32) (n : Nat) (i : Int32) (f0 : h q = some (.inr (2, [.ref q1, .int (nI n)]))) (f1 : h q1 = some (.inl (E.1 1, 400, .inl b))) (hn : n ≤ 400) : ur_Mi l yR_wordOf wsR_wordOf rmkR_wordOf D vwCl (ur_v E) [.ref q, .int i] h (fun r h2 => r = um_wAt b n i ∧ h2 = h) 0 0 := by
  intro sz
  refine ur_of (cc := cR_wordOf) (maxL := 4) (ret := (some .int)) (by decide) rfl (Nat.le_of_ble_eq_true rfl) ?_
  intro p e s m args below meth c ls Q hsz hx hb hml hr hlocks hnm hown hts hO hK hI hQ hl
  subst hsz
  have hV := hK.1
  have hts : ∀ w ∈ ur_G, w.before args s = true := fun w hw => hts w (List.mem_cons_of_mem _ hw)
  have hZ : ur_Z E (ur_A h s.heap.size) s s.heap := hO.1
  have hown : s.vm.findClass "UnitRoom$Reader" = some m.cls := hown
  have hl : lv_has ls 4 [(0, .ref q), (1, .int i)] := hl
  refine lv_iconst (v := 0) hx hb dR_wordOf_0 (by decide) ?_
  refine lv_istore_n (lv' := [(2, .int 0), (0, .ref q), (1, .int i)]) hx hb dR_wordOf_1 rfl hl (by decide) rfl (fun ls hl => ?_)
  refine lv_iconst (v := 0) hx hb dR_wordOf_2 (by decide) ?_
  refine lv_istore_n (lv' := [(3, .int 0), (2, .int 0), (0, .ref q), (1, .int i)]) hx hb dR_wordOf_3 rfl hl (by decide) rfl (fun ls hl => ?_)
  refine lv_iload_n hx hb dR_wordOf_4 rfl (lv_at hl 0 rfl) ?_
  refine lv_iconst (v := 5) hx hb dR_wordOf_5 (by decide) ?_
  refine lv_icmp_ge (tgt := 28) hx hb dR_wordOf_6 (by decide) (fun c1 => absurd c1 (by decide)) (fun c1 => ?_)
  refine lv_iload_n hx hb dR_wordOf_9 rfl (lv_at hl 1 rfl) ?_
  refine lv_bipush (v := 6) hx hb dR_wordOf_10 (by decide) ?_
  refine lv_ishl hx hb dR_wordOf_12 ?_
  refine lv_aload_n hx hb dR_wordOf_13 rfl (lv_at hl 2 rfl) ?_
  refine lv_iload_n hx hb dR_wordOf_14 rfl (lv_at hl 3 rfl) ?_
  refine lv_iload_n hx hb dR_wordOf_15 rfl (lv_at hl 0 rfl) ?_
  refine lv_iadd hx hb dR_wordOf_16 ?_
  refine ur_xi (va_runV (As := [.int (i + 0)]) (rest := [.int ((0 : Int32) <<< ((6 : Int32) &&& 31))]) ⟨hx, hb, hml, hown, hts⟩ (kN_codeAt l D E h q q1 b n (i + 0) f0 f1 (by first | assumption | omega | decide) s.heap.size) (cwV 1 hts (ur_gV mw471 mw472 mw473 mw3 mw474) rfl rfl rfl (by decide +kernel) ⟨(Nat.le_of_ble_eq_true rfl), (Nat.le_of_ble_eq_true rfl)⟩) ⟨ur_blind, va_recv hV (ur_one hI.1 f0) (ci := 2) (q0 := 0) rfl rfl, ur_pre hI hO hK (fun _ _ q => q)⟩ rfl rfl hl.1 rfl (lv_room (Nat.le_of_ble_eq_true rfl)) dR_wordOf_17 ⟨Nat.le_of_ble_eq_true rfl, Nat.le_of_ble_eq_true rfl⟩) hI (fun r2 h2 H locs p2 hI => ?_)
  obtain ⟨er2, eh2⟩ := p2
  replace eh2 := eh2.symm; subst eh2
  replace er2 := er2.symm; subst er2
  refine lv_ior hx hb dR_wordOf_20 ?_
  refine lv_istore_n (lv' := [(2, .int (((0 : Int32) <<< ((6 : Int32) &&& 31)) ||| (um_cAt b n (i + 0)))), (3, .int 0), (0, .ref q), (1, .int i)]) hx hb dR_wordOf_21 rfl hl (by decide) rfl (fun ls hl => ?_)
  refine lv_iinc (v := 1) (lv' := [(3, .int 1), (2, .int (((0 : Int32) <<< ((6 : Int32) &&& 31)) ||| (um_cAt b n (i + 0)))), (0, .ref q), (1, .int i)]) hx hb dR_wordOf_22 hl (k := 1) rfl (by decide) (by decide) rfl (fun ls hl => ?_)
  refine lv_goto (tgt := 4) hx hb dR_wordOf_25 (by decide) ?_
  refine lv_iload_n hx hb dR_wordOf_4 rfl (lv_at hl 0 rfl) ?_
  refine lv_iconst (v := 5) hx hb dR_wordOf_5 (by decide) ?_
  refine lv_icmp_ge (tgt := 28) hx hb dR_wordOf_6 (by decide) (fun c3 => absurd c3 (by decide)) (fun c3 => ?_)
  refine lv_iload_n hx hb dR_wordOf_9 rfl (lv_at hl 1 rfl) ?_
  refine lv_bipush (v := 6) hx hb dR_wordOf_10 (by decide) ?_
  refine lv_ishl hx hb dR_wordOf_12 ?_
  refine lv_aload_n hx hb dR_wordOf_13 rfl (lv_at hl 2 rfl) ?_
  refine lv_iload_n hx hb dR_wordOf_14 rfl (lv_at hl 3 rfl) ?_
  refine lv_iload_n hx hb dR_wordOf_15 rfl (lv_at hl 0 rfl) ?_
  refine lv_iadd hx hb dR_wordOf_16 ?_
  refine ur_xi (va_runV (As := [.int (i + 1)]) (rest := [.int ((((0 : Int32) <<< ((6 : Int32) &&& 31)) ||| (um_cAt b n (i + 0))) <<< ((6 : Int32) &&& 31))]) ⟨hx, hb, hml, hown, hts⟩ (kN_codeAt l D E h q q1 b n (i + 1) f0 f1 (by first | assumption | omega | decide) H.size) (cwV 1 hts (ur_gV mw471 mw472 mw473 mw3 mw474) rfl rfl rfl (by decide +kernel) ⟨(Nat.le_of_ble_eq_true rfl), (Nat.le_of_ble_eq_true rfl)⟩) ⟨ur_blind, va_recv hV (ur_one hI.1 f0) (ci := 2) (q0 := 0) rfl rfl, ur_pre hI hO hK (fun _ _ q => q)⟩ rfl rfl hl.1 rfl (lv_room (Nat.le_of_ble_eq_true rfl)) dR_wordOf_17 ⟨Nat.le_of_ble_eq_true rfl, Nat.le_of_ble_eq_true rfl⟩) hI (fun r4 h4 H locs p4 hI => ?_)
  obtain ⟨er4, eh4⟩ := p4
  replace eh4 := eh4.symm; subst eh4
  replace er4 := er4.symm; subst er4
  refine lv_ior hx hb dR_wordOf_20 ?_
  refine lv_istore_n (lv' := [(2, .int (((((0 : Int32) <<< ((6 : Int32) &&& 31)) ||| (um_cAt b n (i + 0))) <<< ((6 : Int32) &&& 31)) ||| (um_cAt b n (i + 1)))), (3, .int 1), (0, .ref q), (1, .int i)]) hx hb dR_wordOf_21 rfl hl (by decide) rfl (fun ls hl => ?_)
  refine lv_iinc (v := 2) (lv' := [(3, .int 2), (2, .int (((((0 : Int32) <<< ((6 : Int32) &&& 31)) ||| (um_cAt b n (i + 0))) <<< ((6 : Int32) &&& 31)) ||| (um_cAt b n (i + 1)))), (0, .ref q), (1, .int i)]) hx hb dR_wordOf_22 hl (k := 1) rfl (by decide) (by decide) rfl (fun ls hl => ?_)
  refine lv_goto (tgt := 4) hx hb dR_wordOf_25 (by decide) ?_
  refine lv_iload_n hx hb dR_wordOf_4 rfl (lv_at hl 0 rfl) ?_
  refine lv_iconst (v := 5) hx hb dR_wordOf_5 (by decide) ?_
  refine lv_icmp_ge (tgt := 28) hx hb dR_wordOf_6 (by decide) (fun c5 => absurd c5 (by decide)) (fun c5 => ?_)
  refine lv_iload_n hx hb dR_wordOf_9 rfl (lv_at hl 1 rfl) ?_
  refine lv_bipush (v := 6) hx hb dR_wordOf_10 (by decide) ?_
  refine lv_ishl hx hb dR_wordOf_12 ?_
  refine lv_aload_n hx hb dR_wordOf_13 rfl (lv_at hl 2 rfl) ?_
  refine lv_iload_n hx hb dR_wordOf_14 rfl (lv_at hl 3 rfl) ?_
  refine lv_iload_n hx hb dR_wordOf_15 rfl (lv_at hl 0 rfl) ?_
  refine lv_iadd hx hb dR_wordOf_16 ?_
  refine ur_xi (va_runV (As := [.int (i + 2)]) (rest := [.int ((((((0 : Int32) <<< ((6 : Int32) &&& 31)) ||| (um_cAt b n (i + 0))) <<< ((6 : Int32) &&& 31)) ||| (um_cAt b n (i + 1))) <<< ((6 : Int32) &&& 31))]) ⟨hx, hb, hml, hown, hts⟩ (kN_codeAt l D E h q q1 b n (i + 2) f0 f1 (by first | assumption | omega | decide) H.size) (cwV 1 hts (ur_gV mw471 mw472 mw473 mw3 mw474) rfl rfl rfl (by decide +kernel) ⟨(Nat.le_of_ble_eq_true rfl), (Nat.le_of_ble_eq_true rfl)⟩) ⟨ur_blind, va_recv hV (ur_one hI.1 f0) (ci := 2) (q0 := 0) rfl rfl, ur_pre hI hO hK (fun _ _ q => q)⟩ rfl rfl hl.1 rfl (lv_room (Nat.le_of_ble_eq_true rfl)) dR_wordOf_17 ⟨Nat.le_of_ble_eq_true rfl, Nat.le_of_ble_eq_true rfl⟩) hI (fun r6 h6 H locs p6 hI => ?_)
  obtain ⟨er6, eh6⟩ := p6
  replace eh6 := eh6.symm; subst eh6
  replace er6 := er6.symm; subst er6
  refine lv_ior hx hb dR_wordOf_20 ?_
  refine lv_istore_n (lv' := [(2, .int (((((((0 : Int32) <<< ((6 : Int32) &&& 31)) ||| (um_cAt b n (i + 0))) <<< ((6 : Int32) &&& 31)) ||| (um_cAt b n (i + 1))) <<< ((6 : Int32) &&& 31)) ||| (um_cAt b n (i + 2)))), (3, .int 2), (0, .ref q), (1, .int i)]) hx hb dR_wordOf_21 rfl hl (by decide) rfl (fun ls hl => ?_)
  refine lv_iinc (v := 3) (lv' := [(3, .int 3), (2, .int (((((((0 : Int32) <<< ((6 : Int32) &&& 31)) ||| (um_cAt b n (i + 0))) <<< ((6 : Int32) &&& 31)) ||| (um_cAt b n (i + 1))) <<< ((6 : Int32) &&& 31)) ||| (um_cAt b n (i + 2)))), (0, .ref q), (1, .int i)]) hx hb dR_wordOf_22 hl (k := 1) rfl (by decide) (by decide) rfl (fun ls hl => ?_)
  refine lv_goto (tgt := 4) hx hb dR_wordOf_25 (by decide) ?_
  refine lv_iload_n hx hb dR_wordOf_4 rfl (lv_at hl 0 rfl) ?_
  refine lv_iconst (v := 5) hx hb dR_wordOf_5 (by decide) ?_
  refine lv_icmp_ge (tgt := 28) hx hb dR_wordOf_6 (by decide) (fun c7 => absurd c7 (by decide)) (fun c7 => ?_)
  refine lv_iload_n hx hb dR_wordOf_9 rfl (lv_at hl 1 rfl) ?_
  refine lv_bipush (v := 6) hx hb dR_wordOf_10 (by decide) ?_
  refine lv_ishl hx hb dR_wordOf_12 ?_
  refine lv_aload_n hx hb dR_wordOf_13 rfl (lv_at hl 2 rfl) ?_
  refine lv_iload_n hx hb dR_wordOf_14 rfl (lv_at hl 3 rfl) ?_
  refine lv_iload_n hx hb dR_wordOf_15 rfl (lv_at hl 0 rfl) ?_
  refine lv_iadd hx hb dR_wordOf_16 ?_
  refine ur_xi (va_runV (As := [.int (i + 3)]) (rest := [.int ((((((((0 : Int32) <<< ((6 : Int32) &&& 31)) ||| (um_cAt b n (i + 0))) <<< ((6 : Int32) &&& 31)) ||| (um_cAt b n (i + 1))) <<< ((6 : Int32) &&& 31)) ||| (um_cAt b n (i + 2))) <<< ((6 : Int32) &&& 31))]) ⟨hx, hb, hml, hown, hts⟩ (kN_codeAt l D E h q q1 b n (i + 3) f0 f1 (by first | assumption | omega | decide) H.size) (cwV 1 hts (ur_gV mw471 mw472 mw473 mw3 mw474) rfl rfl rfl (by decide +kernel) ⟨(Nat.le_of_ble_eq_true rfl), (Nat.le_of_ble_eq_true rfl)⟩) ⟨ur_blind, va_recv hV (ur_one hI.1 f0) (ci := 2) (q0 := 0) rfl rfl, ur_pre hI hO hK (fun _ _ q => q)⟩ rfl rfl hl.1 rfl (lv_room (Nat.le_of_ble_eq_true rfl)) dR_wordOf_17 ⟨Nat.le_of_ble_eq_true rfl, Nat.le_of_ble_eq_true rfl⟩) hI (fun r8 h8 H locs p8 hI => ?_)
  obtain ⟨er8, eh8⟩ := p8
  replace eh8 := eh8.symm; subst eh8
  replace er8 := er8.symm; subst er8
  refine lv_ior hx hb dR_wordOf_20 ?_
  refine lv_istore_n (lv' := [(2, .int (((((((((0 : Int32) <<< ((6 : Int32) &&& 31)) ||| (um_cAt b n (i + 0))) <<< ((6 : Int32) &&& 31)) ||| (um_cAt b n (i + 1))) <<< ((6 : Int32) &&& 31)) ||| (um_cAt b n (i + 2))) <<< ((6 : Int32) &&& 31)) ||| (um_cAt b n (i + 3)))), (3, .int 3), (0, .ref q), (1, .int i)]) hx hb dR_wordOf_21 rfl hl (by decide) rfl (fun ls hl => ?_)
  refine lv_iinc (v := 4) (lv' := [(3, .int 4), (2, .int (((((((((0 : Int32) <<< ((6 : Int32) &&& 31)) ||| (um_cAt b n (i + 0))) <<< ((6 : Int32) &&& 31)) ||| (um_cAt b n (i + 1))) <<< ((6 : Int32) &&& 31)) ||| (um_cAt b n (i + 2))) <<< ((6 : Int32) &&& 31)) ||| (um_cAt b n (i + 3)))), (0, .ref q), (1, .int i)]) hx hb dR_wordOf_22 hl (k := 1) rfl (by decide) (by decide) rfl (fun ls hl => ?_)
  refine lv_goto (tgt := 4) hx hb dR_wordOf_25 (by decide) ?_
  refine lv_iload_n hx hb dR_wordOf_4 rfl (lv_at hl 0 rfl) ?_
  refine lv_iconst (v := 5) hx hb dR_wordOf_5 (by decide) ?_
  refine lv_icmp_ge (tgt := 28) hx hb dR_wordOf_6 (by decide) (fun c9 => absurd c9 (by decide)) (fun c9 => ?_)
  refine lv_iload_n hx hb dR_wordOf_9 rfl (lv_at hl 1 rfl) ?_
  refine lv_bipush (v := 6) hx hb dR_wordOf_10 (by decide) ?_
  refine lv_ishl hx hb dR_wordOf_12 ?_
  refine lv_aload_n hx hb dR_wordOf_13 rfl (lv_at hl 2 rfl) ?_
  refine lv_iload_n hx hb dR_wordOf_14 rfl (lv_at hl 3 rfl) ?_
  refine lv_iload_n hx hb dR_wordOf_15 rfl (lv_at hl 0 rfl) ?_
  refine lv_iadd hx hb dR_wordOf_16 ?_
  refine ur_xi (va_runV (As := [.int (i + 4)]) (rest := [.int ((((((((((0 : Int32) <<< ((6 : Int32) &&& 31)) ||| (um_cAt b n (i + 0))) <<< ((6 : Int32) &&& 31)) ||| (um_cAt b n (i + 1))) <<< ((6 : Int32) &&& 31)) ||| (um_cAt b n (i + 2))) <<< ((6 : Int32) &&& 31)) ||| (um_cAt b n (i + 3))) <<< ((6 : Int32) &&& 31))]) ⟨hx, hb, hml, hown, hts⟩ (kN_codeAt l D E h q q1 b n (i + 4) f0 f1 (by first | assumption | omega | decide) H.size) (cwV 1 hts (ur_gV mw471 mw472 mw473 mw3 mw474) rfl rfl rfl (by decide +kernel) ⟨(Nat.le_of_ble_eq_true rfl), (Nat.le_of_ble_eq_true rfl)⟩) ⟨ur_blind, va_recv hV (ur_one hI.1 f0) (ci := 2) (q0 := 0) rfl rfl, ur_pre hI hO hK (fun _ _ q => q)⟩ rfl rfl hl.1 rfl (lv_room (Nat.le_of_ble_eq_true rfl)) dR_wordOf_17 ⟨Nat.le_of_ble_eq_true rfl, Nat.le_of_ble_eq_true rfl⟩) hI (fun r10 h10 H locs p10 hI => ?_)
  obtain ⟨er10, eh10⟩ := p10
  replace eh10 := eh10.symm; subst eh10
  replace er10 := er10.symm; subst er10
  refine lv_ior hx hb dR_wordOf_20 ?_
  refine lv_istore_n (lv' := [(2, .int (((((((((((0 : Int32) <<< ((6 : Int32) &&& 31)) ||| (um_cAt b n (i + 0))) <<< ((6 : Int32) &&& 31)) ||| (um_cAt b n (i + 1))) <<< ((6 : Int32) &&& 31)) ||| (um_cAt b n (i + 2))) <<< ((6 : Int32) &&& 31)) ||| (um_cAt b n (i + 3))) <<< ((6 : Int32) &&& 31)) ||| (um_cAt b n (i + 4)))), (3, .int 4), (0, .ref q), (1, .int i)]) hx hb dR_wordOf_21 rfl hl (by decide) rfl (fun ls hl => ?_)
  refine lv_iinc (v := 5) (lv' := [(3, .int 5), (2, .int (((((((((((0 : Int32) <<< ((6 : Int32) &&& 31)) ||| (um_cAt b n (i + 0))) <<< ((6 : Int32) &&& 31)) ||| (um_cAt b n (i + 1))) <<< ((6 : Int32) &&& 31)) ||| (um_cAt b n (i + 2))) <<< ((6 : Int32) &&& 31)) ||| (um_cAt b n (i + 3))) <<< ((6 : Int32) &&& 31)) ||| (um_cAt b n (i + 4)))), (0, .ref q), (1, .int i)]) hx hb dR_wordOf_22 hl (k := 1) rfl (by decide) (by decide) rfl (fun ls hl => ?_)
  refine lv_goto (tgt := 4) hx hb dR_wordOf_25 (by decide) ?_
  refine lv_iload_n hx hb dR_wordOf_4 rfl (lv_at hl 0 rfl) ?_
  refine lv_iconst (v := 5) hx hb dR_wordOf_5 (by decide) ?_
  refine lv_icmp_ge (tgt := 28) hx hb dR_wordOf_6 (by decide) (fun c11 => ?_) (fun c11 => absurd c11 (by decide))
  refine lv_iload_n hx hb dR_wordOf_28 rfl (lv_at hl 1 rfl) ?_
  exact ur_ri hx hb hr hlocks hI hQ ⟨(by first | (simp only [um_wAt, c1, c3, c5, c7, c9, c11, ↓reduceIte]; done) | (simp only [um_wAt, c1, c3, c5, c7, c9, c11, ↓reduceIte]; rfl) | rfl), rfl⟩ dR_wordOf_29
