theorem dW_tell_0 : decode cW_tell 0 = .ok (.aload_n 0, 1) := by decide +kernel
theorem dW_tell_1 : decode cW_tell 1 = .ok (.getfield 17, 3) := by decide +kernel
theorem dW_tell_4 : decode cW_tell 4 = .ok (.ireturn, 1) := by decide +kernel
abbrev rmkW_tell : Room := { frames := 0, cells := 0, slots := 0, locals := 0 }
set_option maxHeartbeats 4000000 in
set_option maxRecDepth 100000 in
theorem kW_tell (l : Launch) (D : va_G) (E : ur_Ev) (h : ur_M) (q : Nat) (qb : Nat) (ql : Nat) (nw : Nat) (k : Nat) (du : Int32) (br : Int32) (tu : Int32) (ta : Int32) (hp : Int32) (fa : Int64) (f0 : h q = some (.inr (6, [.int (nI nw), .ref qb, .int du, .long fa, .int br, .int tu, .int ta, .ref ql, .int hp, .int (nI k)])))  : ur_Mi l yW_tell wsW_tell rmkW_tell D vwCl (ur_v E) [.ref q] h (fun r h2 => r = nI k ∧ h2 = h) 0 0 := by
  intro sz
  refine ur_of (cc := cW_tell) (maxL := 1) (ret := (some .int)) (by decide) rfl (Nat.le_of_ble_eq_true rfl) ?_
  intro p e s m args below meth c ls Q hsz hx hb hml hr hlocks hnm hown hts hO hK hI hQ hl
  subst hsz
  have hV := hK.1
  have hts : ∀ w ∈ ur_G, w.before args s = true := fun w hw => hts w (List.mem_cons_of_mem _ hw)
  have hZ : ur_Z E (ur_A h s.heap.size) s s.heap := hO.1
  have hown : s.vm.findClass "UnitRoom$Writer" = some m.cls := hown
  have hl : lv_has ls 1 [(0, .ref q)] := hl
  refine lv_aload_n hx hb dW_tell_0 rfl (lv_at hl 0 rfl) ?_
  refine va_get (D := D) (ci := 6) (v := .int (nI k)) (C := "UnitRoom$Writer") (T := TW) (N := 10) hx hb hts inW hown hV (ur_one hI.1 f0) 0 rfl rfl 9 (by decide) (hts _ mw155) (fun _ h9 => h9) rfl dW_tell_1 ?_
  exact ur_ri hx hb hr hlocks hI hQ ⟨(by first | (simp only [↓reduceIte]; done) | (simp only [↓reduceIte]; rfl) | rfl), rfl⟩ dW_tell_4
theorem dW_faultOf_0 : decode cW_faultOf 0 = .ok (.iload_n 1, 1) := by decide +kernel
theorem dW_faultOf_1 : decode cW_faultOf 1 = .ok (.iconst 2, 1) := by decide +kernel
theorem dW_faultOf_2 : decode cW_faultOf 2 = .ok (.if_icmp .eq 18, 3) := by decide +kernel
theorem dW_faultOf_5 : decode cW_faultOf 5 = .ok (.iload_n 1, 1) := by decide +kernel
theorem dW_faultOf_6 : decode cW_faultOf 6 = .ok (.ifCond .ne 18, 3) := by decide +kernel
theorem dW_faultOf_9 : decode cW_faultOf 9 = .ok (.aload_n 0, 1) := by decide +kernel
theorem dW_faultOf_10 : decode cW_faultOf 10 = .ok (.getfield 21, 3) := by decide +kernel
theorem dW_faultOf_13 : decode cW_faultOf 13 = .ok (.ifCond .eq 11, 3) := by decide +kernel
theorem dW_faultOf_16 : decode cW_faultOf 16 = .ok (.iload_n 2, 1) := by decide +kernel
theorem dW_faultOf_17 : decode cW_faultOf 17 = .ok (.ifCond .ne 7, 3) := by decide +kernel
theorem dW_faultOf_20 : decode cW_faultOf 20 = .ok (.iconst 1, 1) := by decide +kernel
theorem dW_faultOf_21 : decode cW_faultOf 21 = .ok (.goto 4, 3) := by decide +kernel
theorem dW_faultOf_24 : decode cW_faultOf 24 = .ok (.iconst 0, 1) := by decide +kernel
theorem dW_faultOf_25 : decode cW_faultOf 25 = .ok (.istore 4, 2) := by decide +kernel
theorem dW_faultOf_27 : decode cW_faultOf 27 = .ok (.iload 4, 2) := by decide +kernel
theorem dW_faultOf_29 : decode cW_faultOf 29 = .ok (.ifCond .eq 7, 3) := by decide +kernel
theorem dW_faultOf_32 : decode cW_faultOf 32 = .ok (.iconst 0, 1) := by decide +kernel
theorem dW_faultOf_33 : decode cW_faultOf 33 = .ok (.goto 4, 3) := by decide +kernel
theorem dW_faultOf_36 : decode cW_faultOf 36 = .ok (.iconst 5, 1) := by decide +kernel
theorem dW_faultOf_37 : decode cW_faultOf 37 = .ok (.ireturn, 1) := by decide +kernel
abbrev rmkW_fault : Room := { frames := 0, cells := 0, slots := 0, locals := 0 }
set_option maxHeartbeats 4000000 in
set_option maxRecDepth 100000 in
theorem kW_fault (l : Launch) (D : va_G) (E : ur_Ev) (h : ur_M) (q : Nat) (qb : Nat) (ql : Nat) (nw : Nat) (k : Nat) (du : Int32) (br : Int32) (tu : Int32) (ta : Int32) (hp : Int32) (fa : Int64) (op : Int32) (mv : Int32) (x : Int32) (f0 : h q = some (.inr (6, [.int (nI nw), .ref qb, .int du, .long fa, .int br, .int tu, .int ta, .ref ql, .int hp, .int (nI k)])))  : ur_Mi l yW_faultOf wsW_faultOf rmkW_fault D vwCl (ur_v E) [.ref q, .int op, .int mv, .int x] h (fun r h2 => r = um_fW op hp mv ∧ h2 = h) 0 0 := by
  intro sz
  refine ur_of (cc := cW_faultOf) (maxL := 5) (ret := (some .int)) (by decide) rfl (Nat.le_of_ble_eq_true rfl) ?_
  intro p e s m args below meth c ls Q hsz hx hb hml hr hlocks hnm hown hts hO hK hI hQ hl
  subst hsz
  have hV := hK.1
  have hts : ∀ w ∈ ur_G, w.before args s = true := fun w hw => hts w (List.mem_cons_of_mem _ hw)
  have hZ : ur_Z E (ur_A h s.heap.size) s s.heap := hO.1
  have hown : s.vm.findClass "UnitRoom$Writer" = some m.cls := hown
  have hl : lv_has ls 5 [(0, .ref q), (1, .int op), (2, .int mv), (3, .int x)] := hl
  refine lv_iload_n hx hb dW_faultOf_0 rfl (lv_at hl 1 rfl) ?_
  refine lv_iconst (v := 2) hx hb dW_faultOf_1 (by decide) ?_
  refine lv_icmp_eq (tgt := 20) hx hb dW_faultOf_2 (by decide) (fun c1 => ?_) (fun c1 => ?_)
  · refine lv_iconst (v := 1) hx hb dW_faultOf_20 (by decide) ?_
    refine lv_goto (tgt := 25) hx hb dW_faultOf_21 (by decide) ?_
    refine lv_istore (lv' := [(4, .int 1), (0, .ref q), (1, .int op), (2, .int mv), (3, .int x)]) hx hb dW_faultOf_25 hl (by decide) rfl (fun ls hl => ?_)
    refine lv_iload hx hb dW_faultOf_27 (lv_at hl 0 rfl) ?_
    refine lv_if_eq (tgt := 36) hx hb dW_faultOf_29 (by decide) (fun c2 => absurd c2 (by decide)) (fun c2 => ?_)
    refine lv_iconst (v := 0) hx hb dW_faultOf_32 (by decide) ?_
    refine lv_goto (tgt := 37) hx hb dW_faultOf_33 (by decide) ?_
    exact ur_ri hx hb hr hlocks hI hQ ⟨(by first | (simp only [um_fW, c1, c2, ↓reduceIte]; done) | (simp only [um_fW, c1, c2, ↓reduceIte]; rfl) | rfl), rfl⟩ dW_faultOf_37
  · refine lv_iload_n hx hb dW_faultOf_5 rfl (lv_at hl 1 rfl) ?_
    refine lv_if_ne (tgt := 24) hx hb dW_faultOf_6 (by decide) (fun c3 => ?_) (fun c3 => ?_)
    · refine lv_iconst (v := 0) hx hb dW_faultOf_24 (by decide) ?_
      refine lv_istore (lv' := [(4, .int 0), (0, .ref q), (1, .int op), (2, .int mv), (3, .int x)]) hx hb dW_faultOf_25 hl (by decide) rfl (fun ls hl => ?_)
      refine lv_iload hx hb dW_faultOf_27 (lv_at hl 0 rfl) ?_
      refine lv_if_eq (tgt := 36) hx hb dW_faultOf_29 (by decide) (fun c4 => ?_) (fun c4 => absurd c4 (by decide))
      refine lv_iconst (v := 5) hx hb dW_faultOf_36 (by decide) ?_
      exact ur_ri hx hb hr hlocks hI hQ ⟨(by first | (simp only [um_fW, c1, c3, c4, ↓reduceIte]; done) | (simp only [um_fW, c1, c3, c4, ↓reduceIte]; rfl) | rfl), rfl⟩ dW_faultOf_37
    · refine lv_aload_n hx hb dW_faultOf_9 rfl (lv_at hl 0 rfl) ?_
      refine va_get (D := D) (ci := 6) (v := .int hp) (C := "UnitRoom$Writer") (T := TW) (N := 10) hx hb hts inW hown hV (ur_one hI.1 f0) 0 rfl rfl 8 (by decide) (hts _ mw154) (fun _ h9 => h9) rfl dW_faultOf_10 ?_
      refine lv_if_eq (tgt := 24) hx hb dW_faultOf_13 (by decide) (fun c5 => ?_) (fun c5 => ?_)
      · refine lv_iconst (v := 0) hx hb dW_faultOf_24 (by decide) ?_
        refine lv_istore (lv' := [(4, .int 0), (0, .ref q), (1, .int op), (2, .int mv), (3, .int x)]) hx hb dW_faultOf_25 hl (by decide) rfl (fun ls hl => ?_)
        refine lv_iload hx hb dW_faultOf_27 (lv_at hl 0 rfl) ?_
        refine lv_if_eq (tgt := 36) hx hb dW_faultOf_29 (by decide) (fun c6 => ?_) (fun c6 => absurd c6 (by decide))
        refine lv_iconst (v := 5) hx hb dW_faultOf_36 (by decide) ?_
        exact ur_ri hx hb hr hlocks hI hQ ⟨(by first | (simp only [um_fW, c1, c3, c5, c6, ↓reduceIte]; done) | (simp only [um_fW, c1, c3, c5, c6, ↓reduceIte]; rfl) | rfl), rfl⟩ dW_faultOf_37
      · refine lv_iload_n hx hb dW_faultOf_16 rfl (lv_at hl 2 rfl) ?_
        refine lv_if_ne (tgt := 24) hx hb dW_faultOf_17 (by decide) (fun c7 => ?_) (fun c7 => ?_)
        · refine lv_iconst (v := 0) hx hb dW_faultOf_24 (by decide) ?_
          refine lv_istore (lv' := [(4, .int 0), (0, .ref q), (1, .int op), (2, .int mv), (3, .int x)]) hx hb dW_faultOf_25 hl (by decide) rfl (fun ls hl => ?_)
          refine lv_iload hx hb dW_faultOf_27 (lv_at hl 0 rfl) ?_
          refine lv_if_eq (tgt := 36) hx hb dW_faultOf_29 (by decide) (fun c8 => ?_) (fun c8 => absurd c8 (by decide))
          refine lv_iconst (v := 5) hx hb dW_faultOf_36 (by decide) ?_
          exact ur_ri hx hb hr hlocks hI hQ ⟨(by first | (simp only [um_fW, c1, c3, c5, c7, c8, ↓reduceIte]; done) | (simp only [um_fW, c1, c3, c5, c7, c8, ↓reduceIte]; rfl) | rfl), rfl⟩ dW_faultOf_37
        · refine lv_iconst (v := 1) hx hb dW_faultOf_20 (by decide) ?_
          refine lv_goto (tgt := 25) hx hb dW_faultOf_21 (by decide) ?_
          refine lv_istore (lv' := [(4, .int 1), (0, .ref q), (1, .int op), (2, .int mv), (3, .int x)]) hx hb dW_faultOf_25 hl (by decide) rfl (fun ls hl => ?_)
          refine lv_iload hx hb dW_faultOf_27 (lv_at hl 0 rfl) ?_
          refine lv_if_eq (tgt := 36) hx hb dW_faultOf_29 (by decide) (fun c9 => absurd c9 (by decide)) (fun c9 => ?_)
          refine lv_iconst (v := 0) hx hb dW_faultOf_32 (by decide) ?_
          refine lv_goto (tgt := 37) hx hb dW_faultOf_33 (by decide) ?_
          exact ur_ri hx hb hr hlocks hI hQ ⟨(by first | (simp only [um_fW, c1, c3, c5, c7, c9, ↓reduceIte]; done) | (simp only [um_fW, c1, c3, c5, c7, c9, ↓reduceIte]; rfl) | rfl), rfl⟩ dW_faultOf_37
theorem dW_formFeedLine_0 : decode cW_formFeedLine 0 = .ok (.iconst 1, 1) := by decide +kernel
theorem dW_formFeedLine_1 : decode cW_formFeedLine 1 = .ok (.newarray .byte, 2) := by decide +kernel
theorem dW_formFeedLine_3 : decode cW_formFeedLine 3 = .ok (.astore_n 0, 1) := by decide +kernel
theorem dW_formFeedLine_4 : decode cW_formFeedLine 4 = .ok (.aload_n 0, 1) := by decide +kernel
theorem dW_formFeedLine_5 : decode cW_formFeedLine 5 = .ok (.iconst 0, 1) := by decide +kernel
theorem dW_formFeedLine_6 : decode cW_formFeedLine 6 = .ok (.bipush 12, 2) := by decide +kernel
theorem dW_formFeedLine_8 : decode cW_formFeedLine 8 = .ok (.bastore, 1) := by decide +kernel
theorem dW_formFeedLine_9 : decode cW_formFeedLine 9 = .ok (.aload_n 0, 1) := by decide +kernel
theorem dW_formFeedLine_10 : decode cW_formFeedLine 10 = .ok (.areturn, 1) := by decide +kernel
abbrev rmkW_ff : Room := { frames := 0, cells := 1, slots := 1, locals := 0 }
set_option maxHeartbeats 4000000 in
set_option maxRecDepth 100000 in
theorem kW_ff (l : Launch) (D : va_G) (E : ur_Ev) (h : ur_M)    : ur_Mq l yW_formFeedLine wsW_formFeedLine rmkW_ff D vwCl (ur_v E) [] h (fun r h2 => ∃ w, r = some w ∧ h w = none ∧ h2 = va_up h w (some (.inl (E.1 1, 1, .inl um_ff)))) 1 1 := by
  intro sz
  refine ur_of (cc := cW_formFeedLine) (maxL := 1) (ret := (some (.array .byte))) (by decide) rfl (Nat.le_of_ble_eq_true rfl) ?_
  intro p e s m args below meth c ls Q hsz hx hb hml hr hlocks hnm hown hts hO hK hI hQ hl
  subst hsz
  have hV := hK.1
  have hts : ∀ w ∈ ur_G, w.before args s = true := fun w hw => hts w (List.mem_cons_of_mem _ hw)
  have hZ : ur_Z E (ur_A h s.heap.size) s s.heap := hO.1
  have hown : s.vm.findClass "UnitRoom$Writer" = some m.cls := hown
  have hl : lv_has ls 1 [] := hl
  refine lv_iconst (v := 1) hx hb dW_formFeedLine_0 (by decide) ?_
  refine ur_newa (atype := .byte) (a0 := (1, (.inl (fun _ => 0)))) hx hb (hts _ mw50) rfl 1 hV rfl rfl hI (n := 1) (N' := 1) (fun _ => by rfl) (by decide) rfl (by decide) (Nat.le_of_ble_eq_true rfl) (Nat.le_of_ble_eq_true rfl) dW_formFeedLine_1 (fun w1 H zw1 hI => ?_)
  obtain ⟨h2, eh2⟩ : ∃ z : ur_M, z = va_up h w1 (some (.inl (E.1 1, 1, .inl (fun _ => 0)))) := ⟨_, rfl⟩
  replace hI : ur_I D vwCl (ur_A h s.heap.size) s.heap h2 H [] := by rw [eh2]; exact hI
  have fq3 : h2 w1 = some (.inl (E.1 1, 1, .inl (fun _ => 0))) := by rw [eh2]; exact va_up_self _ _ _
  refine lv_astore_n (lv' := [(0, .ref w1)]) hx hb dW_formFeedLine_3 rfl hl (by decide) rfl (fun ls hl => ?_)
  refine lv_aload_n hx hb dW_formFeedLine_4 rfl (lv_at hl 0 rfl) ?_
  refine lv_iconst (v := 0) hx hb dW_formFeedLine_5 (by decide) ?_
  refine lv_bipush (v := 12) hx hb dW_formFeedLine_6 (by decide) ?_
  refine ur_bast hx hb hV hI 1 fq3 rfl (vp_in_nI (n := 0) (by decide) (by decide)) dW_formFeedLine_8 (fun H locs hI => ?_)
  obtain ⟨h4, eh4⟩ : ∃ z : ur_M, z = va_up h2 w1 (some (.inl (E.1 1, 1, .inl (upd (fun _ => 0) (Int32.toNatClampNeg 0) (vp_nar .byte 12))))) := ⟨_, rfl⟩
  replace hI : ur_I D vwCl (ur_A h s.heap.size) s.heap h4 H locs := by rw [eh4]; exact hI
  have fq5 : h4 w1 = some (.inl (E.1 1, 1, .inl (upd (fun _ => 0) (Int32.toNatClampNeg 0) (vp_nar .byte 12)))) := by rw [eh4]; exact (va_up_self _ _ _)
  refine lv_aload_n hx hb dW_formFeedLine_9 rfl (lv_at hl 0 rfl) ?_
  exact ur_rq (v := (some w1)) hx hb hr hlocks hI hQ (Or.inr ⟨_, rfl⟩) ⟨_, rfl, zw1, (by rw [eh4, eh2, bx_uu]; rfl)⟩ dW_formFeedLine_10
theorem dW_lengthWithoutBlanks_0 : decode cW_lengthWithoutBlanks 0 = .ok (.iconst 0, 1) := by decide +kernel
theorem dW_lengthWithoutBlanks_1 : decode cW_lengthWithoutBlanks 1 = .ok (.aload_n 0, 1) := by decide +kernel
theorem dW_lengthWithoutBlanks_2 : decode cW_lengthWithoutBlanks 2 = .ok (.getfield 47, 3) := by decide +kernel
theorem dW_lengthWithoutBlanks_5 : decode cW_lengthWithoutBlanks 5 = .ok (.invokestatic 50, 3) := by decide +kernel
theorem dW_lengthWithoutBlanks_8 : decode cW_lengthWithoutBlanks 8 = .ok (.iconst 5, 1) := by decide +kernel
theorem dW_lengthWithoutBlanks_9 : decode cW_lengthWithoutBlanks 9 = .ok (.imul, 1) := by decide +kernel
theorem dW_lengthWithoutBlanks_10 : decode cW_lengthWithoutBlanks 10 = .ok (.istore_n 3, 1) := by decide +kernel
theorem dW_lengthWithoutBlanks_11 : decode cW_lengthWithoutBlanks 11 = .ok (.iload_n 3, 1) := by decide +kernel
theorem dW_lengthWithoutBlanks_12 : decode cW_lengthWithoutBlanks 12 = .ok (.ifCond .le 20, 3) := by decide +kernel
theorem dW_lengthWithoutBlanks_15 : decode cW_lengthWithoutBlanks 15 = .ok (.aload_n 2, 1) := by decide +kernel
theorem dW_lengthWithoutBlanks_16 : decode cW_lengthWithoutBlanks 16 = .ok (.iload_n 1, 1) := by decide +kernel
theorem dW_lengthWithoutBlanks_17 : decode cW_lengthWithoutBlanks 17 = .ok (.iload_n 3, 1) := by decide +kernel
theorem dW_lengthWithoutBlanks_18 : decode cW_lengthWithoutBlanks 18 = .ok (.iconst 1, 1) := by decide +kernel
theorem dW_lengthWithoutBlanks_19 : decode cW_lengthWithoutBlanks 19 = .ok (.isub, 1) := by decide +kernel
theorem dW_lengthWithoutBlanks_20 : decode cW_lengthWithoutBlanks 20 = .ok (.invokevirtual 37, 3) := by decide +kernel
theorem dW_lengthWithoutBlanks_23 : decode cW_lengthWithoutBlanks 23 = .ok (.ifCond .ne 9, 3) := by decide +kernel
theorem dW_lengthWithoutBlanks_26 : decode cW_lengthWithoutBlanks 26 = .ok (.iinc 3 (-1), 3) := by decide +kernel
theorem dW_lengthWithoutBlanks_29 : decode cW_lengthWithoutBlanks 29 = .ok (.goto (-18), 3) := by decide +kernel
theorem dW_lengthWithoutBlanks_32 : decode cW_lengthWithoutBlanks 32 = .ok (.iload_n 3, 1) := by decide +kernel
theorem dW_lengthWithoutBlanks_33 : decode cW_lengthWithoutBlanks 33 = .ok (.ireturn, 1) := by decide +kernel
abbrev rmkW_len : Room := { frames := 3, cells := 0, slots := 0, locals := 68 }
set_option maxHeartbeats 4000000 in
set_option maxRecDepth 100000 in
theorem kW_len (l : Launch) (D : va_G) (E : ur_Ev) (h : ur_M) (q : Nat) (qb : Nat) (ql : Nat) (nw : Nat) (k : Nat) (du : Int32) (br : Int32) (tu : Int32) (ta : Int32) (hp : Int32) (fa : Int64) (qm : Nat) (q1 : Nat) (g : Nat → Int32) (a : Int32) (f0 : h q = some (.inr (6, [.int (nI nw), .ref qb, .int du, .long fa, .int br, .int tu, .int ta, .ref ql, .int hp, .int (nI k)]))) (f1 : h qm = some (.inr (1, [.ref q1]))) (f2 : h q1 = some (.inl (E.1 0, 4000, .inl g))) (hw0 : 0 < nw) (hw1 : nw ≤ 24) : ur_Mi l yW_lengthWithoutBlanks wsW_lengthWithoutBlanks rmkW_len D vwCl (ur_v E) [.ref q, .int a, .ref qm] h (fun r h2 => r = nI (um_len g a (nw * 5)) ∧ h2 = h) 0 0 := by
  intro sz
  refine ur_of (cc := cW_lengthWithoutBlanks) (maxL := 4) (ret := (some .int)) (by decide) rfl (Nat.le_of_ble_eq_true rfl) ?_
  intro p e s m args below meth c ls Q hsz hx hb hml hr hlocks hnm hown hts hO hK hI hQ hl
  subst hsz
  have hV := hK.1
  have hts : ∀ w ∈ ur_G, w.before args s = true := fun w hw => hts w (List.mem_cons_of_mem _ hw)
  have hZ : ur_Z E (ur_A h s.heap.size) s s.heap := hO.1
  have hown : s.vm.findClass "UnitRoom$Writer" = some m.cls := hown
  have hl : lv_has ls 4 [(0, .ref q), (1, .int a), (2, .ref qm)] := hl
  refine lv_iconst (v := 0) hx hb dW_lengthWithoutBlanks_0 (by decide) ?_
  refine lv_aload_n hx hb dW_lengthWithoutBlanks_1 rfl (lv_at hl 0 rfl) ?_
  refine va_get (D := D) (ci := 6) (v := .int (nI nw)) (C := "UnitRoom$Writer") (T := TW) (N := 10) hx hb hts inW hown hV (ur_one hI.1 f0) 0 rfl rfl 0 (by decide) (hts _ mw67) (fun x9 h9 => u_same (hts _ mw68) x9 h9) rfl dW_lengthWithoutBlanks_2 ?_
  refine va_mmax hx hb (hml.trans hl.1.symm) hown (hts _ mw382) (hts _ mw61) (hts _ mw6) (hts _ mw62) (Nat.le_of_ble_eq_true rfl) (Nat.le_of_ble_eq_true rfl) (Nat.le_of_ble_eq_true rfl) (Nat.le_of_ble_eq_true rfl) dW_lengthWithoutBlanks_5 ?_
  refine lv_iconst (v := 5) hx hb dW_lengthWithoutBlanks_8 (by decide) ?_
  refine lv_imul hx hb dW_lengthWithoutBlanks_9 ?_
  refine lv_topi (fun x9 ex9 => ?_)
  rw [um_w5 hw0 (by omega)] at ex9
  subst ex9
  refine lv_istore_n (lv' := [(3, .int (nI (nw * 5))), (0, .ref q), (1, .int a), (2, .ref qm)]) hx hb dW_lengthWithoutBlanks_10 rfl hl (by decide) rfl (fun ls hl => ?_)
  have lpn1 : ∀ (n1 : Nat) (n : Nat) (H : Heap) (locs : List Loc) (ls : Array Slot), n < n1 → (n ≤ 120) → (um_len g a (nw * 5) = um_len g a n) → ur_I D vwCl (ur_A h s.heap.size) s.heap h H locs → lv_has ls 4 [(0, .ref q), (1, .int a), (2, .ref qm), (3, .int (nI n))] → W p l e rmkW_len s m args below meth c H locs 0 0 Q (F0 m 11 ls []) := by
    intro n1
    induction n1 with
    | zero => intro n H locs ls hnn1; exact absurd hnn1 (Nat.not_lt_zero _)
    | succ n1 ihn1 =>
      intro n H locs ls hnn1 hn hf hI hl
      refine lv_iload_n hx hb dW_lengthWithoutBlanks_11 rfl (lv_at hl 3 rfl) ?_
      refine lv_if_le (tgt := 32) hx hb dW_lengthWithoutBlanks_12 (by decide) (fun c2 => ?_) (fun c2 => ?_)
      · refine lv_iload_n hx hb dW_lengthWithoutBlanks_32 rfl (lv_at hl 3 rfl) ?_
        exact ur_ri hx hb hr hlocks hI hQ ⟨(by have h9 : n = 0 := Nat.eq_zero_of_not_pos (fun z9 => nI_nle z9 (by omega) c2); rw [hf, h9]; rfl), rfl⟩ dW_lengthWithoutBlanks_33
      · obtain ⟨j, rfl⟩ : ∃ j, n = j + 1 := ⟨n - 1, by have : n ≠ 0 := fun z9 => c2 (by rw [z9]; decide); omega⟩
        refine lv_aload_n hx hb dW_lengthWithoutBlanks_15 rfl (lv_at hl 2 rfl) ?_
        refine lv_iload_n hx hb dW_lengthWithoutBlanks_16 rfl (lv_at hl 1 rfl) ?_
        refine lv_iload_n hx hb dW_lengthWithoutBlanks_17 rfl (lv_at hl 3 rfl) ?_
        refine lv_iconst (v := 1) hx hb dW_lengthWithoutBlanks_18 (by decide) ?_
        refine lv_isub hx hb dW_lengthWithoutBlanks_19 ?_
        refine ur_xi (va_runV (As := [.int a, .int ((nI (j + 1)) - 1)]) (rest := []) ⟨hx, hb, hml, hown, hts⟩ (kM_by l D E h qm q1 g a ((nI (j + 1)) - 1) f1 f2 H.size) (cwV 2 hts (ur_gV mw383 mw384 mw385 mw2 mw386) rfl rfl rfl (by decide +kernel) ⟨(Nat.le_of_ble_eq_true rfl), (Nat.le_of_ble_eq_true rfl)⟩) ⟨ur_blind, va_recv hV (ur_one hI.1 f1) (ci := 1) (q0 := 0) rfl rfl, ur_pre hI hO hK (fun _ _ q => q)⟩ rfl rfl hl.1 rfl (lv_room (Nat.le_of_ble_eq_true rfl)) dW_lengthWithoutBlanks_20 ⟨Nat.le_of_ble_eq_true rfl, Nat.le_of_ble_eq_true rfl⟩) hI (fun r3 h3 H locs p3 hI => ?_)
        obtain ⟨er3, eh3⟩ := p3
        replace eh3 := eh3.symm; subst eh3
        replace er3 := er3.symm; subst er3
        refine lv_if_ne (tgt := 32) hx hb dW_lengthWithoutBlanks_23 (by decide) (fun c4 => ?_) (fun c4 => ?_)
        · refine lv_iload_n hx hb dW_lengthWithoutBlanks_32 rfl (lv_at hl 3 rfl) ?_
          exact ur_ri hx hb hr hlocks hI hQ ⟨(by rw [hf, um_len, if_neg c4]), rfl⟩ dW_lengthWithoutBlanks_33
        · refine lv_iinc (v := ((nI (j + 1)) + (-1))) (lv' := [(3, .int ((nI (j + 1)) + (-1))), (0, .ref q), (1, .int a), (2, .ref qm)]) hx hb dW_lengthWithoutBlanks_26 hl (k := 3) rfl rfl (by decide) rfl (fun ls hl => ?_)
          refine lv_goto (tgt := 11) hx hb dW_lengthWithoutBlanks_29 (by decide) ?_
          rw [pk_m1] at hl
          exact ihn1 j H locs ls (by omega) (by omega) (by rw [hf, um_len, if_pos c4]) hI (lv_sub hl [1, 2, 3, 0] rfl)
  exact lpn1 _ (nw * 5) _ _ ls (Nat.lt_succ_self _) (by omega) rfl hI (lv_sub hl [1, 2, 3, 0] rfl)
theorem dW_lineOf_0 : decode cW_lineOf 0 = .ok (.aload_n 0, 1) := by decide +kernel
theorem dW_lineOf_1 : decode cW_lineOf 1 = .ok (.iload_n 1, 1) := by decide +kernel
theorem dW_lineOf_2 : decode cW_lineOf 2 = .ok (.aload_n 2, 1) := by decide +kernel
theorem dW_lineOf_3 : decode cW_lineOf 3 = .ok (.invokevirtual 33, 3) := by decide +kernel
theorem dW_lineOf_6 : decode cW_lineOf 6 = .ok (.newarray .byte, 2) := by decide +kernel
theorem dW_lineOf_8 : decode cW_lineOf 8 = .ok (.astore_n 3, 1) := by decide +kernel
theorem dW_lineOf_9 : decode cW_lineOf 9 = .ok (.iconst 0, 1) := by decide +kernel
theorem dW_lineOf_10 : decode cW_lineOf 10 = .ok (.istore 4, 2) := by decide +kernel
theorem dW_lineOf_12 : decode cW_lineOf 12 = .ok (.iload 4, 2) := by decide +kernel
theorem dW_lineOf_14 : decode cW_lineOf 14 = .ok (.aload_n 3, 1) := by decide +kernel
theorem dW_lineOf_15 : decode cW_lineOf 15 = .ok (.arraylength, 1) := by decide +kernel
theorem dW_lineOf_16 : decode cW_lineOf 16 = .ok (.if_icmp .ge 24, 3) := by decide +kernel
theorem dW_lineOf_19 : decode cW_lineOf 19 = .ok (.aload_n 3, 1) := by decide +kernel
theorem dW_lineOf_20 : decode cW_lineOf 20 = .ok (.iload 4, 2) := by decide +kernel
theorem dW_lineOf_22 : decode cW_lineOf 22 = .ok (.aload_n 2, 1) := by decide +kernel
theorem dW_lineOf_23 : decode cW_lineOf 23 = .ok (.iload_n 1, 1) := by decide +kernel
theorem dW_lineOf_24 : decode cW_lineOf 24 = .ok (.iload 4, 2) := by decide +kernel
theorem dW_lineOf_26 : decode cW_lineOf 26 = .ok (.invokevirtual 37, 3) := by decide +kernel
theorem dW_lineOf_29 : decode cW_lineOf 29 = .ok (.invokestatic 43, 3) := by decide +kernel
theorem dW_lineOf_32 : decode cW_lineOf 32 = .ok (.i2b, 1) := by decide +kernel
theorem dW_lineOf_33 : decode cW_lineOf 33 = .ok (.bastore, 1) := by decide +kernel
theorem dW_lineOf_34 : decode cW_lineOf 34 = .ok (.iinc 4 1, 3) := by decide +kernel
theorem dW_lineOf_37 : decode cW_lineOf 37 = .ok (.goto (-25), 3) := by decide +kernel
theorem dW_lineOf_40 : decode cW_lineOf 40 = .ok (.aload_n 3, 1) := by decide +kernel
theorem dW_lineOf_41 : decode cW_lineOf 41 = .ok (.areturn, 1) := by decide +kernel
abbrev rmkW_line : Room := { frames := 5, cells := 1, slots := 120, locals := 105 }
set_option maxHeartbeats 4000000 in
set_option maxRecDepth 100000 in
theorem kW_line (l : Launch) (D : va_G) (E : ur_Ev) (h : ur_M) (q : Nat) (qb : Nat) (ql : Nat) (nw : Nat) (k : Nat) (du : Int32) (br : Int32) (tu : Int32) (ta : Int32) (hp : Int32) (fa : Int64) (qm : Nat) (q1 : Nat) (g : Nat → Int32) (a : Int32) (f0 : h q = some (.inr (6, [.int (nI nw), .ref qb, .int du, .long fa, .int br, .int tu, .int ta, .ref ql, .int hp, .int (nI k)]))) (f1 : h qm = some (.inr (1, [.ref q1]))) (f2 : h q1 = some (.inl (E.1 0, 4000, .inl g))) (hw0 : 0 < nw) (hw1 : nw ≤ 24) : ur_Mq l yW_lineOf wsW_lineOf rmkW_line D vwCl (ur_v E) [.ref q, .int a, .ref qm] h (fun r h2 => ∃ w, r = some w ∧ h w = none ∧ h2 = va_up h w (some (.inl (E.1 1, (um_len g a (nw * 5)), .inl (um_line g a (um_len g a (nw * 5))))))) 1 120 := by
  intro sz
  refine ur_of (cc := cW_lineOf) (maxL := 5) (ret := (some (.array .byte))) (by decide) rfl (Nat.le_of_ble_eq_true rfl) ?_
  intro p e s m args below meth c ls Q hsz hx hb hml hr hlocks hnm hown hts hO hK hI hQ hl
  subst hsz
  have hV := hK.1
  have hts : ∀ w ∈ ur_G, w.before args s = true := fun w hw => hts w (List.mem_cons_of_mem _ hw)
  have hZ : ur_Z E (ur_A h s.heap.size) s s.heap := hO.1
  have hown : s.vm.findClass "UnitRoom$Writer" = some m.cls := hown
  have hl : lv_has ls 5 [(0, .ref q), (1, .int a), (2, .ref qm)] := hl
  refine lv_aload_n hx hb dW_lineOf_0 rfl (lv_at hl 0 rfl) ?_
  refine lv_iload_n hx hb dW_lineOf_1 rfl (lv_at hl 1 rfl) ?_
  refine lv_aload_n hx hb dW_lineOf_2 rfl (lv_at hl 2 rfl) ?_
  refine ur_xi (va_runV (As := [.int a, .ref qm]) (rest := []) ⟨hx, hb, hml, hown, hts⟩ (kW_len l D E h q qb ql nw k du br tu ta hp fa qm q1 g a f0 f1 f2 (by first | assumption | omega | decide) (by first | assumption | omega | decide) s.heap.size) (cwV 2 hts (ur_gV mw378 mw380 ms6 mw10 mw381) rfl rfl rfl (by decide +kernel) ⟨(Nat.le_of_ble_eq_true rfl), (Nat.le_of_ble_eq_true rfl)⟩) ⟨ur_blind, va_recv hV (ur_one hI.1 f0) (ci := 6) (q0 := 0) rfl rfl, ur_pre hI hO hK (fun _ _ q => q)⟩ rfl rfl hl.1 rfl (lv_room (Nat.le_of_ble_eq_true rfl)) dW_lineOf_3 ⟨Nat.le_of_ble_eq_true rfl, Nat.le_of_ble_eq_true rfl⟩) hI (fun r1 h1 H locs p1 hI => ?_)
  obtain ⟨er1, eh1⟩ := p1
  replace eh1 := eh1.symm; subst eh1
  replace er1 := er1.symm; subst er1
  have hL := um_len_le g a (nw * 5)
  generalize um_len g a (nw * 5) = L at hL hQ ⊢
  refine ur_newa (atype := .byte) (a0 := (L, (.inl (fun _ => 0)))) hx hb (hts _ mw50) rfl 1 hV rfl rfl hI (n := (nI L)) (N' := L) (fun _ => by rfl) (nI_pos (by omega)) (nI_clamp (by omega)) (by show L * 1 ≤ _; omega) (Nat.le_of_ble_eq_true rfl) (by show 0 + L ≤ 120; omega) dW_lineOf_6 (fun w2 H zw2 hI => ?_)
  obtain ⟨h3, eh3⟩ : ∃ z : ur_M, z = va_up h w2 (some (.inl (E.1 1, L, .inl (fun _ => 0)))) := ⟨_, rfl⟩
  replace hI : ur_I D vwCl (ur_A h s.heap.size) s.heap h3 H locs := by rw [eh3]; exact hI
  have n5 : q ≠ w2 := ur_fresh f0 zw2
  have fq4 : h3 q = some (.inr (6, [.int (nI nw), .ref qb, .int du, .long fa, .int br, .int tu, .int ta, .ref ql, .int hp, .int (nI k)])) := by rw [eh3]; exact (va_up_ne _ _ n5).trans f0
  have n7 : qm ≠ w2 := ur_fresh f1 zw2
  have fq6 : h3 qm = some (.inr (1, [.ref q1])) := by rw [eh3]; exact (va_up_ne _ _ n7).trans f1
  have n9 : q1 ≠ w2 := ur_fresh f2 zw2
  have fq8 : h3 q1 = some (.inl (E.1 0, 4000, .inl g)) := by rw [eh3]; exact (va_up_ne _ _ n9).trans f2
  have fq10 : h3 w2 = some (.inl (E.1 1, L, .inl (fun _ => 0))) := by rw [eh3]; exact va_up_self _ _ _
  refine W.widen (k := 1) (n := 120) (by omega) (by omega) ?_
  refine lv_astore_n (lv' := [(3, .ref w2), (0, .ref q), (1, .int a), (2, .ref qm)]) hx hb dW_lineOf_8 rfl hl (by decide) rfl (fun ls hl => ?_)
  refine lv_iconst (v := 0) hx hb dW_lineOf_9 (by decide) ?_
  refine lv_istore (lv' := [(4, .int 0), (3, .ref w2), (0, .ref q), (1, .int a), (2, .ref qm)]) hx hb dW_lineOf_10 hl (by decide) rfl (fun ls hl => ?_)
  have hz9 : h w2 = none := zw2
  have lpn11 : ∀ (n11 : Nat) (i : Nat) (hn11 : ur_M) (H : Heap) (locs : List Loc) (ls : Array Slot), L - i < n11 → (i ≤ L) → hn11 = va_up h w2 (some (.inl (E.1 1, L, .inl (um_line g a i)))) → ur_I D vwCl (ur_A h s.heap.size) s.heap hn11 H locs → lv_has ls 5 [(0, .ref q), (1, .int a), (2, .ref qm), (3, .ref w2), (4, .int (nI i))] → W p l e rmkW_line s m args below meth c H locs 1 120 Q (F0 m 12 ls []) := by
    intro n11
    induction n11 with
    | zero => intro i hn11 H locs ls hnn11; exact absurd hnn11 (Nat.not_lt_zero _)
    | succ n11 ihn11 =>
      intro i hn11 H locs ls hnn11 hi ehn11 hI hl
      have fq12 : hn11 q = some (.inr (6, [.int (nI nw), .ref qb, .int du, .long fa, .int br, .int tu, .int ta, .ref ql, .int hp, .int (nI k)])) := by rw [ehn11]; exact (va_up_ne _ _ (ur_fresh f0 hz9)).trans f0
      have fq13 : hn11 qm = some (.inr (1, [.ref q1])) := by rw [ehn11]; exact (va_up_ne _ _ (ur_fresh f1 hz9)).trans f1
      have fq14 : hn11 q1 = some (.inl (E.1 0, 4000, .inl g)) := by rw [ehn11]; exact (va_up_ne _ _ (ur_fresh f2 hz9)).trans f2
      have fq15 : hn11 w2 = some (.inl (E.1 1, L, .inl (um_line g a i))) := by rw [ehn11]; exact va_up_self _ _ _
      refine lv_iload hx hb dW_lineOf_12 (lv_at hl 4 rfl) ?_
      refine lv_aload_n hx hb dW_lineOf_14 rfl (lv_at hl 3 rfl) ?_
      refine va_alen (v := (nI L)) hx hb hV (ur_one hI.1 fq15) 0 1 rfl rfl rfl dW_lineOf_15 ?_
      refine lv_icmp_ge (tgt := 40) hx hb dW_lineOf_16 (by decide) (fun c16 => ?_) (fun c16 => ?_)
      · have he9 : i = L := Nat.le_antisymm hi (Nat.not_lt.mp (fun z9 => nI_ge z9 (by omega) c16))
        refine lv_aload_n hx hb dW_lineOf_40 rfl (lv_at hl 3 rfl) ?_
        exact ur_rq (v := (some w2)) hx hb hr hlocks hI hQ (Or.inr ⟨_, rfl⟩) ⟨_, rfl, zw2, (by rw [ehn11, he9])⟩ dW_lineOf_41
      · have hlt : i < L := Nat.not_le.mp (fun z9 => c16 (nI_le z9 (by omega)))
        refine lv_aload_n hx hb dW_lineOf_19 rfl (lv_at hl 3 rfl) ?_
        refine lv_iload hx hb dW_lineOf_20 (lv_at hl 4 rfl) ?_
        refine lv_aload_n hx hb dW_lineOf_22 rfl (lv_at hl 2 rfl) ?_
        refine lv_iload_n hx hb dW_lineOf_23 rfl (lv_at hl 1 rfl) ?_
        refine lv_iload hx hb dW_lineOf_24 (lv_at hl 4 rfl) ?_
        refine ur_xi (va_runV (As := [.int a, .int (nI i)]) (rest := [.int (nI i), .ref w2]) ⟨hx, hb, hml, hown, hts⟩ (kM_by l D E hn11 qm q1 g a (nI i) fq13 fq14 H.size) (cwV 2 hts (ur_gV mw383 mw384 mw385 mw2 mw386) rfl rfl rfl (by decide +kernel) ⟨(Nat.le_of_ble_eq_true rfl), (Nat.le_of_ble_eq_true rfl)⟩) ⟨ur_blind, va_recv hV (ur_one hI.1 fq13) (ci := 1) (q0 := 0) rfl rfl, ur_pre hI hO hK (fun _ _ q => q)⟩ rfl rfl hl.1 rfl (lv_room (Nat.le_of_ble_eq_true rfl)) dW_lineOf_26 ⟨Nat.le_of_ble_eq_true rfl, Nat.le_of_ble_eq_true rfl⟩) hI (fun r17 h17 H locs p17 hI => ?_)
        obtain ⟨er17, eh17⟩ := p17
        replace eh17 := eh17.symm; subst eh17
        replace er17 := er17.symm; subst er17
        refine ur_xi (va_runSN (As := [.int (um_byte g a (nI i))]) (rest := [.int (nI i), .ref w2]) ⟨hx, hb, hml, hown, hts⟩ (kU_letterOf l D E hn11 (um_byte g a (nI i)) H.size) ⟨va_cnB (host := "UnitRoom") 1 hts (ur_gI mw394) rfl rfl rfl (hK.2.1.1 ("UnitRoom$Writer", 43, ⟨"UnitRoom", "letterOf", "(I)C"⟩, "UnitRoom") (by decide +kernel)) (hts _ mw1) (by decide +kernel) ⟨(Nat.le_of_ble_eq_true rfl), (Nat.le_of_ble_eq_true rfl)⟩, hts _ mw393, trivial⟩ ⟨ur_blind, ur_pre hI hO hK (fun _ _ q => q)⟩ rfl rfl hl.1 rfl (lv_room (Nat.le_of_ble_eq_true rfl)) dW_lineOf_29 ⟨Nat.le_of_ble_eq_true rfl, Nat.le_of_ble_eq_true rfl⟩) hI (fun r18 h18 H locs p18 hI => ?_)
        obtain ⟨er18, eh18⟩ := p18
        replace eh18 := eh18.symm; subst eh18
        replace er18 := er18.symm; subst er18
        refine lv_i2b hx hb dW_lineOf_32 rfl ?_
        refine ur_bast hx hb hV hI 1 fq15 rfl (vp_in_nI hlt (by omega)) dW_lineOf_33 (fun H locs hI => ?_)
        obtain ⟨h19, eh19⟩ : ∃ z : ur_M, z = va_up hn11 w2 (some (.inl (E.1 1, L, .inl (upd (um_line g a i) (Int32.toNatClampNeg (nI i)) (vp_nar .byte ((um_letter (um_byte g a (nI i))).toInt8.toInt32)))))) := ⟨_, rfl⟩
        replace hI : ur_I D vwCl (ur_A h s.heap.size) s.heap h19 H locs := by rw [eh19]; exact hI
        have fq20 : h19 q = some (.inr (6, [.int (nI nw), .ref qb, .int du, .long fa, .int br, .int tu, .int ta, .ref ql, .int hp, .int (nI k)])) := by rw [eh19]; exact ((va_up_ne _ _ n5).trans fq12)
        have fq21 : h19 qm = some (.inr (1, [.ref q1])) := by rw [eh19]; exact ((va_up_ne _ _ n7).trans fq13)
        have fq22 : h19 q1 = some (.inl (E.1 0, 4000, .inl g)) := by rw [eh19]; exact ((va_up_ne _ _ n9).trans fq14)
        have fq23 : h19 w2 = some (.inl (E.1 1, L, .inl (upd (um_line g a i) (Int32.toNatClampNeg (nI i)) (vp_nar .byte ((um_letter (um_byte g a (nI i))).toInt8.toInt32))))) := by rw [eh19]; exact (va_up_self _ _ _)
        refine lv_iinc (v := ((nI i) + 1)) (lv' := [(4, .int ((nI i) + 1)), (0, .ref q), (1, .int a), (2, .ref qm), (3, .ref w2)]) hx hb dW_lineOf_34 hl (k := 4) rfl rfl (by decide) rfl (fun ls hl => ?_)
        refine lv_goto (tgt := 12) hx hb dW_lineOf_37 (by decide) ?_
        rw [nI_1] at hl
        exact ihn11 (i + 1) h19 H locs ls (by omega) hlt (by rw [eh19, ehn11, bx_uu, nI_clamp (by omega), ← um_line_succ]; rfl) hI (lv_sub hl [1, 2, 3, 4, 0] rfl)
  exact lpn11 _ 0 h3 _ _ ls (Nat.lt_succ_self _) (Nat.zero_le _) ((by rw [um_line_0]; exact eh3)) hI (lv_sub hl [2, 3, 4, 1, 0] rfl)
theorem dW_work_0 : decode cW_work 0 = .ok (.aload_n 0, 1) := by decide +kernel
theorem dW_work_1 : decode cW_work 1 = .ok (.getfield 17, 3) := by decide +kernel
theorem dW_work_4 : decode cW_work 4 = .ok (.aload_n 0, 1) := by decide +kernel
theorem dW_work_5 : decode cW_work 5 = .ok (.getfield 13, 3) := by decide +kernel
theorem dW_work_8 : decode cW_work 8 = .ok (.arraylength, 1) := by decide +kernel
theorem dW_work_9 : decode cW_work 9 = .ok (.if_icmp .lt 4, 3) := by decide +kernel
theorem dW_work_12 : decode cW_work 12 = .ok (.return_, 1) := by decide +kernel
theorem dW_work_13 : decode cW_work 13 = .ok (.aload_n 0, 1) := by decide +kernel
theorem dW_work_14 : decode cW_work 14 = .ok (.getfield 13, 3) := by decide +kernel
theorem dW_work_17 : decode cW_work 17 = .ok (.aload_n 0, 1) := by decide +kernel
theorem dW_work_18 : decode cW_work 18 = .ok (.getfield 17, 3) := by decide +kernel
theorem dW_work_21 : decode cW_work 21 = .ok (.iload_n 1, 1) := by decide +kernel
theorem dW_work_22 : decode cW_work 22 = .ok (.ifCond .ne 9, 3) := by decide +kernel
theorem dW_work_25 : decode cW_work 25 = .ok (.invokestatic 25, 3) := by decide +kernel
theorem dW_work_28 : decode cW_work 28 = .ok (.goto 10, 3) := by decide +kernel
theorem dW_work_31 : decode cW_work 31 = .ok (.aload_n 0, 1) := by decide +kernel
theorem dW_work_32 : decode cW_work 32 = .ok (.iload_n 2, 1) := by decide +kernel
theorem dW_work_33 : decode cW_work 33 = .ok (.aload 4, 2) := by decide +kernel
theorem dW_work_35 : decode cW_work 35 = .ok (.invokevirtual 29, 3) := by decide +kernel
theorem dW_work_38 : decode cW_work 38 = .ok (.aastore, 1) := by decide +kernel
theorem dW_work_39 : decode cW_work 39 = .ok (.aload_n 0, 1) := by decide +kernel
theorem dW_work_40 : decode cW_work 40 = .ok (.dup, 1) := by decide +kernel
theorem dW_work_41 : decode cW_work 41 = .ok (.getfield 17, 3) := by decide +kernel
theorem dW_work_44 : decode cW_work 44 = .ok (.iconst 1, 1) := by decide +kernel
theorem dW_work_45 : decode cW_work 45 = .ok (.iadd, 1) := by decide +kernel
theorem dW_work_46 : decode cW_work 46 = .ok (.putfield 17, 3) := by decide +kernel
theorem dW_work_49 : decode cW_work 49 = .ok (.return_, 1) := by decide +kernel
abbrev rmkW_full : Room := { frames := 0, cells := 0, slots := 0, locals := 0 }
set_option maxHeartbeats 4000000 in
set_option maxRecDepth 100000 in
theorem kW_full (l : Launch) (D : va_G) (E : ur_Ev) (h : ur_M) (q : Nat) (qb : Nat) (ql : Nat) (nw : Nat) (k : Nat) (du : Int32) (br : Int32) (tu : Int32) (ta : Int32) (hp : Int32) (fa : Int64) (f : Nat → Option Nat) (qm : Nat) (op : Int32) (mv : Int32) (x : Int32) (f0 : h q = some (.inr (6, [.int (nI nw), .ref qb, .int du, .long fa, .int br, .int tu, .int ta, .ref ql, .int hp, .int (nI k)]))) (f1 : h ql = some (.inl (E.1 4, 300, .inr (.inr (.inr (.inr f)))))) (hk : k = 300) : ur_Mv l yW_work wsW_work rmkW_full D vwCl (ur_v E) [.ref q, .int op, .int mv, .int x, .ref qm] h (fun h2 => h2 = h) 0 0 := by
  intro sz
  refine ur_of (cc := cW_work) (maxL := 5) (ret := none) (by decide) rfl (Nat.le_of_ble_eq_true rfl) ?_
  intro p e s m args below meth c ls Q hsz hx hb hml hr hlocks hnm hown hts hO hK hI hQ hl
  subst hsz
  have hV := hK.1
  have hts : ∀ w ∈ ur_G, w.before args s = true := fun w hw => hts w (List.mem_cons_of_mem _ hw)
  have hZ : ur_Z E (ur_A h s.heap.size) s s.heap := hO.1
  have hown : s.vm.findClass "UnitRoom$Writer" = some m.cls := hown
  have hl : lv_has ls 5 [(0, .ref q), (1, .int op), (2, .int mv), (3, .int x), (4, .ref qm)] := hl
  refine lv_aload_n hx hb dW_work_0 rfl (lv_at hl 0 rfl) ?_
  refine va_get (D := D) (ci := 6) (v := .int (nI k)) (C := "UnitRoom$Writer") (T := TW) (N := 10) hx hb hts inW hown hV (ur_one hI.1 f0) 0 rfl rfl 9 (by decide) (hts _ mw155) (fun _ h9 => h9) rfl dW_work_1 ?_
  refine lv_aload_n hx hb dW_work_4 rfl (lv_at hl 0 rfl) ?_
  refine va_get (D := D) (ci := 6) (v := .ref ql) (C := "UnitRoom$Writer") (T := TW) (N := 10) hx hb hts inW hown hV (ur_one hI.1 f0) 0 rfl rfl 7 (by decide) (hts _ mw153) (fun _ h9 => h9) rfl dW_work_5 ?_
  refine va_alen (v := 300) hx hb hV (ur_one hI.1 f1) 0 4 rfl rfl rfl dW_work_8 ?_
  refine lv_icmp_lt (tgt := 13) hx hb dW_work_9 (by decide) (fun c1 => absurd c1 (by rw [hk]; decide)) (fun c1 => ?_)
  exact ur_rv hx hb hr hlocks hI hQ rfl dW_work_12
abbrev rmkW_work0 : Room := { frames := 1, cells := 1, slots := 120, locals := 20 }
set_option maxHeartbeats 4000000 in
set_option maxRecDepth 100000 in
theorem kW_work0 (l : Launch) (D : va_G) (E : ur_Ev) (h : ur_M) (q : Nat) (qb : Nat) (ql : Nat) (nw : Nat) (k : Nat) (du : Int32) (br : Int32) (tu : Int32) (ta : Int32) (hp : Int32) (fa : Int64) (qm : Nat) (q1 : Nat) (g : Nat → Int32) (f : Nat → Option Nat) (mv : Int32) (x : Int32) (f0 : h q = some (.inr (6, [.int (nI nw), .ref qb, .int du, .long fa, .int br, .int tu, .int ta, .ref ql, .int hp, .int (nI k)]))) (f1 : h ql = some (.inl (E.1 4, 300, .inr (.inr (.inr (.inr f)))))) (f2 : h qm = some (.inr (1, [.ref q1]))) (f3 : h q1 = some (.inl (E.1 0, 4000, .inl g))) (hk : k < 300) (hw0 : 0 < nw) (hw1 : nw ≤ 24) : ur_Mv l yW_work wsW_work rmkW_work0 D vwCl (ur_v E) [.ref q, .int 0, .int mv, .int x, .ref qm] h (fun h2 => ∃ w, h w = none ∧ h2 = va_up (va_up (va_up h w (some (.inl (E.1 1, 1, .inl um_ff)))) ql (some (.inl (E.1 4, 300, .inr (.inr (.inr (.inr (va_up f k (some w))))))))) q (some (.inr (6, [.int (nI nw), .ref qb, .int du, .long fa, .int br, .int tu, .int ta, .ref ql, .int hp, .int (nI (k + 1))])))) 1 120 := by
  intro sz
  refine ur_of (cc := cW_work) (maxL := 5) (ret := none) (by decide) rfl (Nat.le_of_ble_eq_true rfl) ?_
  intro p e s m args below meth c ls Q hsz hx hb hml hr hlocks hnm hown hts hO hK hI hQ hl
  subst hsz
  have hV := hK.1
  have hts : ∀ w ∈ ur_G, w.before args s = true := fun w hw => hts w (List.mem_cons_of_mem _ hw)
  have hZ : ur_Z E (ur_A h s.heap.size) s s.heap := hO.1
  have hown : s.vm.findClass "UnitRoom$Writer" = some m.cls := hown
  have hl : lv_has ls 5 [(0, .ref q), (1, .int 0), (2, .int mv), (3, .int x), (4, .ref qm)] := hl
  refine lv_aload_n hx hb dW_work_0 rfl (lv_at hl 0 rfl) ?_
  refine va_get (D := D) (ci := 6) (v := .int (nI k)) (C := "UnitRoom$Writer") (T := TW) (N := 10) hx hb hts inW hown hV (ur_one hI.1 f0) 0 rfl rfl 9 (by decide) (hts _ mw155) (fun _ h9 => h9) rfl dW_work_1 ?_
  refine lv_aload_n hx hb dW_work_4 rfl (lv_at hl 0 rfl) ?_
  refine va_get (D := D) (ci := 6) (v := .ref ql) (C := "UnitRoom$Writer") (T := TW) (N := 10) hx hb hts inW hown hV (ur_one hI.1 f0) 0 rfl rfl 7 (by decide) (hts _ mw153) (fun _ h9 => h9) rfl dW_work_5 ?_
  refine va_alen (v := 300) hx hb hV (ur_one hI.1 f1) 0 4 rfl rfl rfl dW_work_8 ?_
  refine lv_icmp_lt (tgt := 13) hx hb dW_work_9 (by decide) (fun c1 => ?_) (fun c1 => absurd c1 (not_not_intro (nI_lt (b := 300) hk (by decide))))
  refine lv_aload_n hx hb dW_work_13 rfl (lv_at hl 0 rfl) ?_
  refine va_get (D := D) (ci := 6) (v := .ref ql) (C := "UnitRoom$Writer") (T := TW) (N := 10) hx hb hts inW hown hV (ur_one hI.1 f0) 0 rfl rfl 7 (by decide) (hts _ mw153) (fun _ h9 => h9) rfl dW_work_14 ?_
  refine lv_aload_n hx hb dW_work_17 rfl (lv_at hl 0 rfl) ?_
  refine va_get (D := D) (ci := 6) (v := .int (nI k)) (C := "UnitRoom$Writer") (T := TW) (N := 10) hx hb hts inW hown hV (ur_one hI.1 f0) 0 rfl rfl 9 (by decide) (hts _ mw155) (fun _ h9 => h9) rfl dW_work_18 ?_
  refine lv_iload_n hx hb dW_work_21 rfl (lv_at hl 1 rfl) ?_
  refine lv_if_ne (tgt := 31) hx hb dW_work_22 (by decide) (fun c2 => absurd c2 (by decide)) (fun c2 => ?_)
  refine ur_xq (va_runS (As := []) (rest := [.int (nI k), .ref ql]) ⟨hx, hb, hml, hown, hts⟩ (kW_ff l D E h s.heap.size) (va_cwS 0 hts (ur_gT mw371 mw372 mw10 mw373) rfl rfl rfl (by decide +kernel) ⟨(Nat.le_of_ble_eq_true rfl), (Nat.le_of_ble_eq_true rfl)⟩) ⟨ur_blind, ur_pre hI hO hK (fun _ _ q => q)⟩ rfl rfl hl.1 rfl (lv_room (Nat.le_of_ble_eq_true rfl)) dW_work_25 ⟨Nat.le_of_ble_eq_true rfl, Nat.le_of_ble_eq_true rfl⟩) hI (fun r3 h3 H locs p3 hI => ?_)
  obtain ⟨w4, er3, zw4, eh3⟩ := p3
  subst er3
  have ne6 : q ≠ w4 := ur_fresh f0 zw4
  have fq5 : h3 q = some (.inr (6, [.int (nI nw), .ref qb, .int du, .long fa, .int br, .int tu, .int ta, .ref ql, .int hp, .int (nI k)])) := by rw [eh3]; exact (va_up_ne _ _ ne6).trans f0
  have ne8 : ql ≠ w4 := ur_fresh f1 zw4
  have fq7 : h3 ql = some (.inl (E.1 4, 300, .inr (.inr (.inr (.inr f))))) := by rw [eh3]; exact (va_up_ne _ _ ne8).trans f1
  have ne10 : qm ≠ w4 := ur_fresh f2 zw4
  have fq9 : h3 qm = some (.inr (1, [.ref q1])) := by rw [eh3]; exact (va_up_ne _ _ ne10).trans f2
  have ne12 : q1 ≠ w4 := ur_fresh f3 zw4
  have fq11 : h3 q1 = some (.inl (E.1 0, 4000, .inl g)) := by rw [eh3]; exact (va_up_ne _ _ ne12).trans f3
  have fq13 : h3 w4 = some (.inl (E.1 1, 1, .inl um_ff)) := by rw [eh3]; exact va_up_self _ _ _
  refine lv_goto (tgt := 38) hx hb dW_work_28 (by decide) ?_
  refine ur_astA hx hb hI fq7 hK.2.1.2.2.2.2.2.2.1.1 hK.2.1.2.2.2.2.2.2.1.2 fq13 (vp_in_nI hk (by decide)) dW_work_38 (fun H locs hI => ?_)
  obtain ⟨h14, eh14⟩ : ∃ z : ur_M, z = va_up h3 ql (some (.inl (E.1 4, 300, .inr (.inr (.inr (.inr (va_up f (Int32.toNatClampNeg (nI k)) (some w4)))))))) := ⟨_, rfl⟩
  replace hI : ur_I D vwCl (ur_A h s.heap.size) s.heap h14 H locs := by rw [eh14]; exact hI
  have fq15 : h14 q = some (.inr (6, [.int (nI nw), .ref qb, .int du, .long fa, .int br, .int tu, .int ta, .ref ql, .int hp, .int (nI k)])) := by rw [eh14]; exact ((va_up_ne _ _ (ur_ne fq5 fq7 (by intro z; simp at z))).trans fq5)
  have fq16 : h14 ql = some (.inl (E.1 4, 300, .inr (.inr (.inr (.inr (va_up f (Int32.toNatClampNeg (nI k)) (some w4))))))) := by rw [eh14]; exact (va_up_self _ _ _)
  have fq17 : h14 qm = some (.inr (1, [.ref q1])) := by rw [eh14]; exact ((va_up_ne _ _ (ur_ne fq9 fq7 (by intro z; simp at z))).trans fq9)
  have fq18 : h14 q1 = some (.inl (E.1 0, 4000, .inl g)) := by rw [eh14]; exact ((va_up_ne _ _ (ur_ne fq11 fq7 (by intro z; simp at z))).trans fq11)
  have fq19 : h14 w4 = some (.inl (E.1 1, 1, .inl um_ff)) := by rw [eh14]; exact ((va_up_ne _ _ (Ne.symm ne8)).trans fq13)
  refine lv_aload_n hx hb dW_work_39 rfl (lv_at hl 0 rfl) ?_
  refine lv_dup hx hb dW_work_40 rfl ?_
  refine va_get (D := D) (ci := 6) (v := .int (nI k)) (C := "UnitRoom$Writer") (T := TW) (N := 10) hx hb hts inW hown hV (ur_one hI.1 fq15) 0 rfl rfl 9 (by decide) (hts _ mw155) (fun _ h9 => h9) rfl dW_work_41 ?_
  refine lv_iconst (v := 1) hx hb dW_work_44 (by decide) ?_
  refine lv_iadd hx hb dW_work_45 ?_
  refine ur_put (D := D) (ci := 6) (v := .int ((nI k) + 1)) (ty := .int) (C := "UnitRoom$Writer") (T := TW) (N := 10) hx hb hts inW tyW tyW_ok nmW hown hV hI fq15 rfl 9 (by decide) (hts _ mw155) (fun _ h9 => h9) rfl (by decide +kernel) rfl rfl (Nat.le_of_ble_eq_true rfl) dW_work_46 (fun H locs hI => ?_)
  obtain ⟨h20, eh20⟩ : ∃ z : ur_M, z = va_up h14 q (some (.inr (6, [.int (nI nw), .ref qb, .int du, .long fa, .int br, .int tu, .int ta, .ref ql, .int hp, .int ((nI k) + 1)]))) := ⟨_, rfl⟩
  replace hI : ur_I D vwCl (ur_A h s.heap.size) s.heap h20 H locs := by rw [eh20]; exact hI
  have fq21 : h20 q = some (.inr (6, [.int (nI nw), .ref qb, .int du, .long fa, .int br, .int tu, .int ta, .ref ql, .int hp, .int ((nI k) + 1)])) := by rw [eh20]; exact (va_up_self _ _ _)
  have fq22 : h20 ql = some (.inl (E.1 4, 300, .inr (.inr (.inr (.inr (va_up f (Int32.toNatClampNeg (nI k)) (some w4))))))) := by rw [eh20]; exact ((va_up_ne _ _ (ur_ne fq16 fq15 (by intro z; simp at z))).trans fq16)
  have fq23 : h20 qm = some (.inr (1, [.ref q1])) := by rw [eh20]; exact ((va_up_ne _ _ (ur_ne fq17 fq15 (by intro z; simp at z))).trans fq17)
  have fq24 : h20 q1 = some (.inl (E.1 0, 4000, .inl g)) := by rw [eh20]; exact ((va_up_ne _ _ (ur_ne fq18 fq15 (by intro z; simp at z))).trans fq18)
  have fq25 : h20 w4 = some (.inl (E.1 1, 1, .inl um_ff)) := by rw [eh20]; exact ((va_up_ne _ _ (Ne.symm ne6)).trans fq19)
  refine W.widen (k := 1) (n := 120) (by omega) (by omega) ?_
  exact ur_rv hx hb hr hlocks hI hQ ⟨_, zw4, (by rw [eh20, eh14, eh3, nI_clamp (by omega), nI_1])⟩ dW_work_49
abbrev rmkW_work2 : Room := { frames := 6, cells := 1, slots := 120, locals := 129 }
set_option maxHeartbeats 4000000 in
set_option maxRecDepth 100000 in
theorem kW_work2 (l : Launch) (D : va_G) (E : ur_Ev) (h : ur_M) (q : Nat) (qb : Nat) (ql : Nat) (nw : Nat) (k : Nat) (du : Int32) (br : Int32) (tu : Int32) (ta : Int32) (hp : Int32) (fa : Int64) (qm : Nat) (q1 : Nat) (g : Nat → Int32) (f : Nat → Option Nat) (mv : Int32) (x : Int32) (f0 : h q = some (.inr (6, [.int (nI nw), .ref qb, .int du, .long fa, .int br, .int tu, .int ta, .ref ql, .int hp, .int (nI k)]))) (f1 : h ql = some (.inl (E.1 4, 300, .inr (.inr (.inr (.inr f)))))) (f2 : h qm = some (.inr (1, [.ref q1]))) (f3 : h q1 = some (.inl (E.1 0, 4000, .inl g))) (hk : k < 300) (hw0 : 0 < nw) (hw1 : nw ≤ 24) : ur_Mv l yW_work wsW_work rmkW_work2 D vwCl (ur_v E) [.ref q, .int 2, .int mv, .int x, .ref qm] h (fun h2 => ∃ w, h w = none ∧ h2 = va_up (va_up (va_up h w (some (.inl (E.1 1, (um_len g mv (nw * 5)), .inl (um_line g mv (um_len g mv (nw * 5))))))) ql (some (.inl (E.1 4, 300, .inr (.inr (.inr (.inr (va_up f k (some w))))))))) q (some (.inr (6, [.int (nI nw), .ref qb, .int du, .long fa, .int br, .int tu, .int ta, .ref ql, .int hp, .int (nI (k + 1))])))) 1 120 := by
  intro sz
  refine ur_of (cc := cW_work) (maxL := 5) (ret := none) (by decide) rfl (Nat.le_of_ble_eq_true rfl) ?_
  intro p e s m args below meth c ls Q hsz hx hb hml hr hlocks hnm hown hts hO hK hI hQ hl
  subst hsz
  have hV := hK.1
  have hts : ∀ w ∈ ur_G, w.before args s = true := fun w hw => hts w (List.mem_cons_of_mem _ hw)
  have hZ : ur_Z E (ur_A h s.heap.size) s s.heap := hO.1
  have hown : s.vm.findClass "UnitRoom$Writer" = some m.cls := hown
  have hl : lv_has ls 5 [(0, .ref q), (1, .int 2), (2, .int mv), (3, .int x), (4, .ref qm)] := hl
  refine lv_aload_n hx hb dW_work_0 rfl (lv_at hl 0 rfl) ?_
  refine va_get (D := D) (ci := 6) (v := .int (nI k)) (C := "UnitRoom$Writer") (T := TW) (N := 10) hx hb hts inW hown hV (ur_one hI.1 f0) 0 rfl rfl 9 (by decide) (hts _ mw155) (fun _ h9 => h9) rfl dW_work_1 ?_
  refine lv_aload_n hx hb dW_work_4 rfl (lv_at hl 0 rfl) ?_
  refine va_get (D := D) (ci := 6) (v := .ref ql) (C := "UnitRoom$Writer") (T := TW) (N := 10) hx hb hts inW hown hV (ur_one hI.1 f0) 0 rfl rfl 7 (by decide) (hts _ mw153) (fun _ h9 => h9) rfl dW_work_5 ?_
  refine va_alen (v := 300) hx hb hV (ur_one hI.1 f1) 0 4 rfl rfl rfl dW_work_8 ?_
  refine lv_icmp_lt (tgt := 13) hx hb dW_work_9 (by decide) (fun c1 => ?_) (fun c1 => absurd c1 (not_not_intro (nI_lt (b := 300) hk (by decide))))
  refine lv_aload_n hx hb dW_work_13 rfl (lv_at hl 0 rfl) ?_
  refine va_get (D := D) (ci := 6) (v := .ref ql) (C := "UnitRoom$Writer") (T := TW) (N := 10) hx hb hts inW hown hV (ur_one hI.1 f0) 0 rfl rfl 7 (by decide) (hts _ mw153) (fun _ h9 => h9) rfl dW_work_14 ?_
  refine lv_aload_n hx hb dW_work_17 rfl (lv_at hl 0 rfl) ?_
  refine va_get (D := D) (ci := 6) (v := .int (nI k)) (C := "UnitRoom$Writer") (T := TW) (N := 10) hx hb hts inW hown hV (ur_one hI.1 f0) 0 rfl rfl 9 (by decide) (hts _ mw155) (fun _ h9 => h9) rfl dW_work_18 ?_
  refine lv_iload_n hx hb dW_work_21 rfl (lv_at hl 1 rfl) ?_
  refine lv_if_ne (tgt := 31) hx hb dW_work_22 (by decide) (fun c2 => ?_) (fun c2 => absurd c2 (by decide))
  refine lv_aload_n hx hb dW_work_31 rfl (lv_at hl 0 rfl) ?_
  refine lv_iload_n hx hb dW_work_32 rfl (lv_at hl 2 rfl) ?_
  refine lv_aload hx hb dW_work_33 (lv_at hl 4 rfl) ?_
  refine ur_xq (va_runV (As := [.int mv, .ref qm]) (rest := [.int (nI k), .ref ql]) ⟨hx, hb, hml, hown, hts⟩ (kW_line l D E h q qb ql nw k du br tu ta hp fa qm q1 g mv f0 f2 f3 (by first | assumption | omega | decide) (by first | assumption | omega | decide) s.heap.size) (cwV 2 hts (ur_gV mw374 mw376 ms5 mw10 mw377) rfl rfl rfl (by decide +kernel) ⟨(Nat.le_of_ble_eq_true rfl), (Nat.le_of_ble_eq_true rfl)⟩) ⟨ur_blind, va_recv hV (ur_one hI.1 f0) (ci := 6) (q0 := 0) rfl rfl, ur_pre hI hO hK (fun _ _ q => q)⟩ rfl rfl hl.1 rfl (lv_room (Nat.le_of_ble_eq_true rfl)) dW_work_35 ⟨Nat.le_of_ble_eq_true rfl, Nat.le_of_ble_eq_true rfl⟩) hI (fun r3 h3 H locs p3 hI => ?_)
  obtain ⟨w4, er3, zw4, eh3⟩ := p3
  subst er3
  have ne6 : q ≠ w4 := ur_fresh f0 zw4
  have fq5 : h3 q = some (.inr (6, [.int (nI nw), .ref qb, .int du, .long fa, .int br, .int tu, .int ta, .ref ql, .int hp, .int (nI k)])) := by rw [eh3]; exact (va_up_ne _ _ ne6).trans f0
  have ne8 : ql ≠ w4 := ur_fresh f1 zw4
  have fq7 : h3 ql = some (.inl (E.1 4, 300, .inr (.inr (.inr (.inr f))))) := by rw [eh3]; exact (va_up_ne _ _ ne8).trans f1
  have ne10 : qm ≠ w4 := ur_fresh f2 zw4
  have fq9 : h3 qm = some (.inr (1, [.ref q1])) := by rw [eh3]; exact (va_up_ne _ _ ne10).trans f2
  have ne12 : q1 ≠ w4 := ur_fresh f3 zw4
  have fq11 : h3 q1 = some (.inl (E.1 0, 4000, .inl g)) := by rw [eh3]; exact (va_up_ne _ _ ne12).trans f3
  have fq13 : h3 w4 = some (.inl (E.1 1, (um_len g mv (nw * 5)), .inl (um_line g mv (um_len g mv (nw * 5))))) := by rw [eh3]; exact va_up_self _ _ _
  refine ur_astA hx hb hI fq7 hK.2.1.2.2.2.2.2.2.1.1 hK.2.1.2.2.2.2.2.2.1.2 fq13 (vp_in_nI hk (by decide)) dW_work_38 (fun H locs hI => ?_)
  obtain ⟨h14, eh14⟩ : ∃ z : ur_M, z = va_up h3 ql (some (.inl (E.1 4, 300, .inr (.inr (.inr (.inr (va_up f (Int32.toNatClampNeg (nI k)) (some w4)))))))) := ⟨_, rfl⟩
  replace hI : ur_I D vwCl (ur_A h s.heap.size) s.heap h14 H locs := by rw [eh14]; exact hI
  have fq15 : h14 q = some (.inr (6, [.int (nI nw), .ref qb, .int du, .long fa, .int br, .int tu, .int ta, .ref ql, .int hp, .int (nI k)])) := by rw [eh14]; exact ((va_up_ne _ _ (ur_ne fq5 fq7 (by intro z; simp at z))).trans fq5)
  have fq16 : h14 ql = some (.inl (E.1 4, 300, .inr (.inr (.inr (.inr (va_up f (Int32.toNatClampNeg (nI k)) (some w4))))))) := by rw [eh14]; exact (va_up_self _ _ _)
  have fq17 : h14 qm = some (.inr (1, [.ref q1])) := by rw [eh14]; exact ((va_up_ne _ _ (ur_ne fq9 fq7 (by intro z; simp at z))).trans fq9)
  have fq18 : h14 q1 = some (.inl (E.1 0, 4000, .inl g)) := by rw [eh14]; exact ((va_up_ne _ _ (ur_ne fq11 fq7 (by intro z; simp at z))).trans fq11)
  have fq19 : h14 w4 = some (.inl (E.1 1, (um_len g mv (nw * 5)), .inl (um_line g mv (um_len g mv (nw * 5))))) := by rw [eh14]; exact ((va_up_ne _ _ (Ne.symm ne8)).trans fq13)
  refine lv_aload_n hx hb dW_work_39 rfl (lv_at hl 0 rfl) ?_
  refine lv_dup hx hb dW_work_40 rfl ?_
  refine va_get (D := D) (ci := 6) (v := .int (nI k)) (C := "UnitRoom$Writer") (T := TW) (N := 10) hx hb hts inW hown hV (ur_one hI.1 fq15) 0 rfl rfl 9 (by decide) (hts _ mw155) (fun _ h9 => h9) rfl dW_work_41 ?_
  refine lv_iconst (v := 1) hx hb dW_work_44 (by decide) ?_
  refine lv_iadd hx hb dW_work_45 ?_
  refine ur_put (D := D) (ci := 6) (v := .int ((nI k) + 1)) (ty := .int) (C := "UnitRoom$Writer") (T := TW) (N := 10) hx hb hts inW tyW tyW_ok nmW hown hV hI fq15 rfl 9 (by decide) (hts _ mw155) (fun _ h9 => h9) rfl (by decide +kernel) rfl rfl (Nat.le_of_ble_eq_true rfl) dW_work_46 (fun H locs hI => ?_)
  obtain ⟨h20, eh20⟩ : ∃ z : ur_M, z = va_up h14 q (some (.inr (6, [.int (nI nw), .ref qb, .int du, .long fa, .int br, .int tu, .int ta, .ref ql, .int hp, .int ((nI k) + 1)]))) := ⟨_, rfl⟩
  replace hI : ur_I D vwCl (ur_A h s.heap.size) s.heap h20 H locs := by rw [eh20]; exact hI
  have fq21 : h20 q = some (.inr (6, [.int (nI nw), .ref qb, .int du, .long fa, .int br, .int tu, .int ta, .ref ql, .int hp, .int ((nI k) + 1)])) := by rw [eh20]; exact (va_up_self _ _ _)
  have fq22 : h20 ql = some (.inl (E.1 4, 300, .inr (.inr (.inr (.inr (va_up f (Int32.toNatClampNeg (nI k)) (some w4))))))) := by rw [eh20]; exact ((va_up_ne _ _ (ur_ne fq16 fq15 (by intro z; simp at z))).trans fq16)
  have fq23 : h20 qm = some (.inr (1, [.ref q1])) := by rw [eh20]; exact ((va_up_ne _ _ (ur_ne fq17 fq15 (by intro z; simp at z))).trans fq17)
  have fq24 : h20 q1 = some (.inl (E.1 0, 4000, .inl g)) := by rw [eh20]; exact ((va_up_ne _ _ (ur_ne fq18 fq15 (by intro z; simp at z))).trans fq18)
  have fq25 : h20 w4 = some (.inl (E.1 1, (um_len g mv (nw * 5)), .inl (um_line g mv (um_len g mv (nw * 5))))) := by rw [eh20]; exact ((va_up_ne _ _ (Ne.symm ne6)).trans fq19)
  exact ur_rv hx hb hr hlocks hI hQ ⟨_, zw4, (by rw [eh20, eh14, eh3, nI_clamp (by omega), nI_1])⟩ dW_work_49
theorem dW_letterAt_0 : decode cW_letterAt 0 = .ok (.iload_n 1, 1) := by decide +kernel
theorem dW_letterAt_1 : decode cW_letterAt 1 = .ok (.ifCond .lt 20, 3) := by decide +kernel
theorem dW_letterAt_4 : decode cW_letterAt 4 = .ok (.iload_n 1, 1) := by decide +kernel
theorem dW_letterAt_5 : decode cW_letterAt 5 = .ok (.aload_n 0, 1) := by decide +kernel
theorem dW_letterAt_6 : decode cW_letterAt 6 = .ok (.getfield 17, 3) := by decide +kernel
theorem dW_letterAt_9 : decode cW_letterAt 9 = .ok (.if_icmp .ge 12, 3) := by decide +kernel
theorem dW_letterAt_12 : decode cW_letterAt 12 = .ok (.iload_n 1, 1) := by decide +kernel
theorem dW_letterAt_13 : decode cW_letterAt 13 = .ok (.aload_n 0, 1) := by decide +kernel
theorem dW_letterAt_14 : decode cW_letterAt 14 = .ok (.getfield 13, 3) := by decide +kernel
theorem dW_letterAt_17 : decode cW_letterAt 17 = .ok (.arraylength, 1) := by decide +kernel
theorem dW_letterAt_18 : decode cW_letterAt 18 = .ok (.if_icmp .lt 5, 3) := by decide +kernel
theorem dW_letterAt_21 : decode cW_letterAt 21 = .ok (.iconst (-1), 1) := by decide +kernel
theorem dW_letterAt_22 : decode cW_letterAt 22 = .ok (.ireturn, 1) := by decide +kernel
theorem dW_letterAt_23 : decode cW_letterAt 23 = .ok (.aload_n 0, 1) := by decide +kernel
theorem dW_letterAt_24 : decode cW_letterAt 24 = .ok (.getfield 13, 3) := by decide +kernel
theorem dW_letterAt_27 : decode cW_letterAt 27 = .ok (.iload_n 1, 1) := by decide +kernel
theorem dW_letterAt_28 : decode cW_letterAt 28 = .ok (.aaload, 1) := by decide +kernel
theorem dW_letterAt_29 : decode cW_letterAt 29 = .ok (.astore_n 3, 1) := by decide +kernel
theorem dW_letterAt_30 : decode cW_letterAt 30 = .ok (.aload_n 3, 1) := by decide +kernel
theorem dW_letterAt_31 : decode cW_letterAt 31 = .ok (.ifnull 13, 3) := by decide +kernel
theorem dW_letterAt_34 : decode cW_letterAt 34 = .ok (.iload_n 2, 1) := by decide +kernel
theorem dW_letterAt_35 : decode cW_letterAt 35 = .ok (.ifCond .lt 9, 3) := by decide +kernel
theorem dW_letterAt_38 : decode cW_letterAt 38 = .ok (.iload_n 2, 1) := by decide +kernel
theorem dW_letterAt_39 : decode cW_letterAt 39 = .ok (.aload_n 3, 1) := by decide +kernel
theorem dW_letterAt_40 : decode cW_letterAt 40 = .ok (.arraylength, 1) := by decide +kernel
theorem dW_letterAt_41 : decode cW_letterAt 41 = .ok (.if_icmp .lt 7, 3) := by decide +kernel
theorem dW_letterAt_44 : decode cW_letterAt 44 = .ok (.iconst (-1), 1) := by decide +kernel
theorem dW_letterAt_45 : decode cW_letterAt 45 = .ok (.goto 6, 3) := by decide +kernel
theorem dW_letterAt_48 : decode cW_letterAt 48 = .ok (.aload_n 3, 1) := by decide +kernel
theorem dW_letterAt_49 : decode cW_letterAt 49 = .ok (.iload_n 2, 1) := by decide +kernel
theorem dW_letterAt_50 : decode cW_letterAt 50 = .ok (.baload, 1) := by decide +kernel
theorem dW_letterAt_51 : decode cW_letterAt 51 = .ok (.ireturn, 1) := by decide +kernel
abbrev rmkW_letter : Room := { frames := 0, cells := 0, slots := 0, locals := 0 }
set_option maxHeartbeats 4000000 in
set_option maxRecDepth 100000 in
theorem kW_letter (l : Launch) (D : va_G) (E : ur_Ev) (h : ur_M) (q : Nat) (qb : Nat) (ql : Nat) (nw : Nat) (k : Nat) (du : Int32) (br : Int32) (tu : Int32) (ta : Int32) (hp : Int32) (fa : Int64) (f : Nat → Option Nat) (G : Nat → Nat) (B : Nat → Nat → Int32) (x : Int32) (i : Int32) (f0 : h q = some (.inr (6, [.int (nI nw), .ref qb, .int du, .long fa, .int br, .int tu, .int ta, .ref ql, .int hp, .int (nI k)]))) (f1 : h ql = some (.inl (E.1 4, 300, .inr (.inr (.inr (.inr f)))))) (hk : k ≤ 300) (hlin : um_linesAt E h f G B k) : ur_Mi l yW_letterAt wsW_letterAt rmkW_letter D vwCl (ur_v E) [.ref q, .int x, .int i] h (fun r h2 => r = um_lAt G B k x i ∧ h2 = h) 0 0 := by
  intro sz
  refine ur_of (cc := cW_letterAt) (maxL := 4) (ret := (some .int)) (by decide) rfl (Nat.le_of_ble_eq_true rfl) ?_
  intro p e s m args below meth c ls Q hsz hx hb hml hr hlocks hnm hown hts hO hK hI hQ hl
  subst hsz
  have hV := hK.1
  have hts : ∀ w ∈ ur_G, w.before args s = true := fun w hw => hts w (List.mem_cons_of_mem _ hw)
  have hZ : ur_Z E (ur_A h s.heap.size) s s.heap := hO.1
  have hown : s.vm.findClass "UnitRoom$Writer" = some m.cls := hown
  have hl : lv_has ls 4 [(0, .ref q), (1, .int x), (2, .int i)] := hl
  refine lv_iload_n hx hb dW_letterAt_0 rfl (lv_at hl 1 rfl) ?_
  refine lv_if_lt (tgt := 21) hx hb dW_letterAt_1 (by decide) (fun c1 => ?_) (fun c1 => ?_)
  · refine lv_iconst (v := (-1)) hx hb dW_letterAt_21 (by decide) ?_
    exact ur_ri hx hb hr hlocks hI hQ ⟨(by simp only [um_lAt, c1, ↓reduceIte]), rfl⟩ dW_letterAt_22
  · refine lv_iload_n hx hb dW_letterAt_4 rfl (lv_at hl 1 rfl) ?_
    refine lv_aload_n hx hb dW_letterAt_5 rfl (lv_at hl 0 rfl) ?_
    refine va_get (D := D) (ci := 6) (v := .int (nI k)) (C := "UnitRoom$Writer") (T := TW) (N := 10) hx hb hts inW hown hV (ur_one hI.1 f0) 0 rfl rfl 9 (by decide) (hts _ mw155) (fun _ h9 => h9) rfl dW_letterAt_6 ?_
    refine lv_icmp_ge (tgt := 21) hx hb dW_letterAt_9 (by decide) (fun c2 => ?_) (fun c2 => ?_)
    · refine lv_iconst (v := (-1)) hx hb dW_letterAt_21 (by decide) ?_
      exact ur_ri hx hb hr hlocks hI hQ ⟨(by simp only [um_lAt, c1, c2, ↓reduceIte]), rfl⟩ dW_letterAt_22
    · refine lv_iload_n hx hb dW_letterAt_12 rfl (lv_at hl 1 rfl) ?_
      refine lv_aload_n hx hb dW_letterAt_13 rfl (lv_at hl 0 rfl) ?_
      refine va_get (D := D) (ci := 6) (v := .ref ql) (C := "UnitRoom$Writer") (T := TW) (N := 10) hx hb hts inW hown hV (ur_one hI.1 f0) 0 rfl rfl 7 (by decide) (hts _ mw153) (fun _ h9 => h9) rfl dW_letterAt_14 ?_
      refine va_alen (v := 300) hx hb hV (ur_one hI.1 f1) 0 4 rfl rfl rfl dW_letterAt_17 ?_
      refine lv_icmp_lt (tgt := 23) hx hb dW_letterAt_18 (by decide) (fun c3 => ?_) (fun c3 => ?_)
      · refine lv_aload_n hx hb dW_letterAt_23 rfl (lv_at hl 0 rfl) ?_
        refine va_get (D := D) (ci := 6) (v := .ref ql) (C := "UnitRoom$Writer") (T := TW) (N := 10) hx hb hts inW hown hV (ur_one hI.1 f0) 0 rfl rfl 7 (by decide) (hts _ mw153) (fun _ h9 => h9) rfl dW_letterAt_24 ?_
        refine lv_iload_n hx hb dW_letterAt_27 rfl (lv_at hl 1 rfl) ?_
        refine ur_aldA hx hb hV hI 4 f1 rfl rfl (um_in c1 c3 (by decide)) dW_letterAt_28 ?_
        refine ur_asn (lv' := [(3, va_rf (f x.toNatClampNeg)), (0, .ref q), (1, .int x), (2, .int i)]) hx hb dW_letterAt_29 rfl hl (by decide) rfl (fun ls hl => ?_)
        refine ur_aln hx hb dW_letterAt_30 rfl (lv_at hl 0 rfl) ?_
        refine ur_ifn (tgt := 44) hx hb dW_letterAt_31 (by decide) (fun c4 => ?_) (fun a5 c4 => ?_)
        · rw [c4] at hl
          obtain ⟨a9, ha9, hr9, hG9⟩ := hlin x.toNatClampNeg (um_lt c1 c2 (by omega))
          rw [c4] at ha9; cases ha9
        · rw [c4] at hl
          obtain ⟨a9, ha9, hr9, hG9⟩ := hlin x.toNatClampNeg (um_lt c1 c2 (by omega))
          cases c4.symm.trans ha9
          refine lv_iload_n hx hb dW_letterAt_34 rfl (lv_at hl 3 rfl) ?_
          refine lv_if_lt (tgt := 44) hx hb dW_letterAt_35 (by decide) (fun c6 => ?_) (fun c6 => ?_)
          · refine lv_iconst (v := (-1)) hx hb dW_letterAt_44 (by decide) ?_
            refine lv_goto (tgt := 51) hx hb dW_letterAt_45 (by decide) ?_
            exact ur_ri hx hb hr hlocks hI hQ ⟨(by simp only [um_lAt, c1, c2, c3, c6, ↓reduceIte]), rfl⟩ dW_letterAt_51
          · refine lv_iload_n hx hb dW_letterAt_38 rfl (lv_at hl 3 rfl) ?_
            refine lv_aload_n hx hb dW_letterAt_39 rfl (lv_at hl 0 rfl) ?_
            refine va_alen (v := (nI (G x.toNatClampNeg))) hx hb hV (ur_one hI.1 hr9) 0 1 rfl rfl rfl dW_letterAt_40 ?_
            refine lv_icmp_lt (tgt := 48) hx hb dW_letterAt_41 (by decide) (fun c7 => ?_) (fun c7 => ?_)
            · refine lv_aload_n hx hb dW_letterAt_48 rfl (lv_at hl 0 rfl) ?_
              refine lv_iload_n hx hb dW_letterAt_49 rfl (lv_at hl 3 rfl) ?_
              refine va_bald hx hb hV (ur_one hI.1 hr9) 0 1 rfl rfl (um_in c6 c7 (by omega)) dW_letterAt_50 ?_
              exact ur_ri hx hb hr hlocks hI hQ ⟨(by simp only [um_lAt, c1, c2, c3, c6, c7, ↓reduceIte]), rfl⟩ dW_letterAt_51
            · refine lv_iconst (v := (-1)) hx hb dW_letterAt_44 (by decide) ?_
              refine lv_goto (tgt := 51) hx hb dW_letterAt_45 (by decide) ?_
              exact ur_ri hx hb hr hlocks hI hQ ⟨(by simp only [um_lAt, c1, c2, c3, c6, c7, ↓reduceIte]), rfl⟩ dW_letterAt_51
      · refine lv_iconst (v := (-1)) hx hb dW_letterAt_21 (by decide) ?_
        exact ur_ri hx hb hr hlocks hI hQ ⟨(by simp only [um_lAt, c1, c2, c3, ↓reduceIte]), rfl⟩ dW_letterAt_22
