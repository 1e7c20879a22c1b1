theorem dU_feed_0 : decode cU_feed 0 = .ok (.aload_n 0, 1) := by decide +kernel
theorem dU_feed_1 : decode cU_feed 1 = .ok (.getfield 19, 3) := by decide +kernel
theorem dU_feed_4 : decode cU_feed 4 = .ok (.invokevirtual 55, 3) := by decide +kernel
theorem dU_feed_7 : decode cU_feed 7 = .ok (.ifCond .ne 5, 3) := by decide +kernel
theorem dU_feed_10 : decode cU_feed 10 = .ok (.iconst 0, 1) := by decide +kernel
theorem dU_feed_11 : decode cU_feed 11 = .ok (.ireturn, 1) := by decide +kernel
theorem dU_feed_12 : decode cU_feed 12 = .ok (.aload_n 0, 1) := by decide +kernel
theorem dU_feed_13 : decode cU_feed 13 = .ok (.getfield 19, 3) := by decide +kernel
theorem dU_feed_16 : decode cU_feed 16 = .ok (.iload_n 1, 1) := by decide +kernel
theorem dU_feed_17 : decode cU_feed 17 = .ok (.invokevirtual 59, 3) := by decide +kernel
theorem dU_feed_20 : decode cU_feed 20 = .ok (.aload_n 0, 1) := by decide +kernel
theorem dU_feed_21 : decode cU_feed 21 = .ok (.getfield 19, 3) := by decide +kernel
theorem dU_feed_24 : decode cU_feed 24 = .ok (.iload_n 2, 1) := by decide +kernel
theorem dU_feed_25 : decode cU_feed 25 = .ok (.invokevirtual 59, 3) := by decide +kernel
theorem dU_feed_28 : decode cU_feed 28 = .ok (.aload_n 0, 1) := by decide +kernel
theorem dU_feed_29 : decode cU_feed 29 = .ok (.getfield 19, 3) := by decide +kernel
theorem dU_feed_32 : decode cU_feed 32 = .ok (.iload_n 3, 1) := by decide +kernel
theorem dU_feed_33 : decode cU_feed 33 = .ok (.invokevirtual 59, 3) := by decide +kernel
theorem dU_feed_36 : decode cU_feed 36 = .ok (.aload_n 0, 1) := by decide +kernel
theorem dU_feed_37 : decode cU_feed 37 = .ok (.getfield 19, 3) := by decide +kernel
theorem dU_feed_40 : decode cU_feed 40 = .ok (.iload 4, 2) := by decide +kernel
theorem dU_feed_42 : decode cU_feed 42 = .ok (.invokevirtual 59, 3) := by decide +kernel
theorem dU_feed_45 : decode cU_feed 45 = .ok (.aload_n 0, 1) := by decide +kernel
theorem dU_feed_46 : decode cU_feed 46 = .ok (.getfield 19, 3) := by decide +kernel
theorem dU_feed_49 : decode cU_feed 49 = .ok (.iload 5, 2) := by decide +kernel
theorem dU_feed_51 : decode cU_feed 51 = .ok (.invokevirtual 59, 3) := by decide +kernel
theorem dU_feed_54 : decode cU_feed 54 = .ok (.iconst 1, 1) := by decide +kernel
theorem dU_feed_55 : decode cU_feed 55 = .ok (.ireturn, 1) := by decide +kernel
abbrev rmkU_feed : Room := { frames := 1, cells := 0, slots := 0, locals := 22 }
set_option maxHeartbeats 4000000 in
set_option maxRecDepth 100000 in
theorem kU_feed (l : Launch) (D : va_G) (E : ur_Ev) (h : ur_M) (q : Nat) (qm : Nat) (qi : Nat) (qr : Nat) (qd : Nat) (t : Int64) (bg : Int32) (q3 : Nat) (n : Nat) (b : Nat → Int32) (v1 : Int32) (v2 : Int32) (v3 : Int32) (v4 : Int32) (v5 : Int32) (f0 : h q = some (.inr (0, [.ref qm, .ref qi, .ref qr, .ref qd, .long t, .int bg]))) (f1 : h qi = some (.inr (2, [.ref q3, .int (nI n)]))) (f2 : h q3 = some (.inl (E.1 1, 400, .inl b))) (hn : n ≤ 400) : ur_Mi l yU_feed wsU_feed rmkU_feed D vwCl (ur_v E) [.ref q, .int v1, .int v2, .int v3, .int v4, .int v5] h (fun r h2 => r = um_b (um_room (nI n)) ∧ h2 = va_up (va_up h q3 (some (.inl (E.1 1, 400, .inl (um_fdb b n v1 v2 v3 v4 v5))))) qi (some (.inr (2, [.ref q3, .int (nI (um_fdn n))])))) 0 0 := by
  intro sz
  refine ur_of (cc := cU_feed) (maxL := 6) (ret := (some .boolean)) (by decide) rfl (Nat.le_of_ble_eq_true rfl) ?_
  intro p e s m args below meth c ls Q hsz hx hb hml hr hlocks hnm hown hts hO hK hI hQ hl
  subst hsz
  have hV := hK.1
  have hts : ∀ w ∈ ur_G, w.before args s = true := fun w hw => hts w (List.mem_cons_of_mem _ hw)
  have hZ : ur_Z E (ur_A h s.heap.size) s s.heap := hO.1
  have hown : s.vm.findClass "UnitRoom" = some m.cls := hown
  have hl : lv_has ls 6 [(0, .ref q), (1, .int v1), (2, .int v2), (3, .int v3), (4, .int v4), (5, .int v5)] := hl
  have hne : q3 ≠ qi := ur_ne f2 f1 (by intro z; simp at z)
  refine lv_aload_n hx hb dU_feed_0 rfl (lv_at hl 0 rfl) ?_
  refine va_get (D := D) (ci := 0) (v := .ref qi) (C := "UnitRoom") (T := TU) (N := 6) hx hb hts inU hown hV (ur_one hI.1 f0) 0 rfl rfl 1 (by decide) (hts _ mw171) (fun _ h9 => h9) rfl dU_feed_1 ?_
  refine ur_xi (va_runV (As := []) (rest := []) ⟨hx, hb, hml, hown, hts⟩ (kN_hasRoom l D E h qi q3 b (nI n) f1 f2 s.heap.size) (cwV 0 hts (ur_gV mw193 mw194 mw195 mw3 mw196) rfl rfl rfl (by decide +kernel) ⟨(Nat.le_of_ble_eq_true rfl), (Nat.le_of_ble_eq_true rfl)⟩) ⟨ur_blind, va_recv hV (ur_one hI.1 f1) (ci := 2) (q0 := 0) rfl rfl, ur_pre hI hO hK (fun _ _ q => q)⟩ rfl rfl hl.1 rfl (lv_room (Nat.le_of_ble_eq_true rfl)) dU_feed_4 ⟨Nat.le_of_ble_eq_true rfl, Nat.le_of_ble_eq_true rfl⟩) hI (fun r1 h1 H locs p1 hI => ?_)
  obtain ⟨er1, eh1⟩ := p1
  replace eh1 := eh1.symm; subst eh1
  refine lv_if_ne (tgt := 12) hx hb dU_feed_7 (by decide) (fun c2 => ?_) (fun c2 => ?_)
  · have k3 : (um_room (nI n)) = true := um_b1 er1 c2
    have hn9 := um_room_le hn k3
    refine lv_aload_n hx hb dU_feed_12 rfl (lv_at hl 0 rfl) ?_
    refine va_get (D := D) (ci := 0) (v := .ref qi) (C := "UnitRoom") (T := TU) (N := 6) hx hb hts inU hown hV (ur_one hI.1 f0) 0 rfl rfl 1 (by decide) (hts _ mw171) (fun _ h9 => h9) rfl dU_feed_13 ?_
    refine lv_iload_n hx hb dU_feed_16 rfl (lv_at hl 1 rfl) ?_
    refine ur_xv (va_runV (As := [.int v1]) (rest := []) ⟨hx, hb, hml, hown, hts⟩ (kN_append l D E h qi q3 b n v1 f1 f2 (by first | assumption | omega | decide) H.size) (cwV 1 hts (ur_gV mw197 mw198 mw199 mw3 mw200) rfl rfl rfl (by decide +kernel) ⟨(Nat.le_of_ble_eq_true rfl), (Nat.le_of_ble_eq_true rfl)⟩) ⟨ur_blind, va_recv hV (ur_one hI.1 f1) (ci := 2) (q0 := 0) rfl rfl, ur_pre hI hO hK (fun _ _ q => q)⟩ rfl rfl hl.1 rfl (lv_room (Nat.le_of_ble_eq_true rfl)) dU_feed_17 ⟨Nat.le_of_ble_eq_true rfl, Nat.le_of_ble_eq_true rfl⟩) hI (fun h4 H locs p4 hI => ?_)
    have eh4 := p4
    have fq5 : h4 q = some (.inr (0, [.ref qm, .ref qi, .ref qr, .ref qd, .long t, .int bg])) := by rw [eh4]; exact ((va_up_ne _ _ (ur_ne f0 f1 (by intro z; simp at z))).trans ((va_up_ne _ _ (ur_ne f0 f2 (by intro z; simp at z))).trans f0))
    have fq6 : h4 qi = some (.inr (2, [.ref q3, .int (nI (n + 1 + 1 + 1 + 1))])) := by rw [eh4]; exact (va_up_self _ _ _)
    have fq7 : h4 q3 = some (.inl (E.1 1, 400, .inl (um_app b n v1))) := by rw [eh4]; exact ((va_up_ne _ _ hne).trans (va_up_self _ _ _))
    refine lv_aload_n hx hb dU_feed_20 rfl (lv_at hl 0 rfl) ?_
    refine va_get (D := D) (ci := 0) (v := .ref qi) (C := "UnitRoom") (T := TU) (N := 6) hx hb hts inU hown hV (ur_one hI.1 fq5) 0 rfl rfl 1 (by decide) (hts _ mw171) (fun _ h9 => h9) rfl dU_feed_21 ?_
    refine lv_iload_n hx hb dU_feed_24 rfl (lv_at hl 2 rfl) ?_
    refine ur_xv (va_runV (As := [.int v2]) (rest := []) ⟨hx, hb, hml, hown, hts⟩ (kN_append l D E h4 qi q3 (um_app b n v1) (n + 1 + 1 + 1 + 1) v2 fq6 fq7 (by first | assumption | omega | decide) H.size) (cwV 1 hts (ur_gV mw197 mw198 mw199 mw3 mw200) rfl rfl rfl (by decide +kernel) ⟨(Nat.le_of_ble_eq_true rfl), (Nat.le_of_ble_eq_true rfl)⟩) ⟨ur_blind, va_recv hV (ur_one hI.1 fq6) (ci := 2) (q0 := 0) rfl rfl, ur_pre hI hO hK (fun _ _ q => q)⟩ rfl rfl hl.1 rfl (lv_room (Nat.le_of_ble_eq_true rfl)) dU_feed_25 ⟨Nat.le_of_ble_eq_true rfl, Nat.le_of_ble_eq_true rfl⟩) hI (fun h8 H locs p8 hI => ?_)
    have eh8 := p8
    have fq9 : h8 q = some (.inr (0, [.ref qm, .ref qi, .ref qr, .ref qd, .long t, .int bg])) := by rw [eh8]; exact ((va_up_ne _ _ (ur_ne fq5 fq6 (by intro z; simp at z))).trans ((va_up_ne _ _ (ur_ne fq5 fq7 (by intro z; simp at z))).trans fq5))
    have fq10 : h8 qi = some (.inr (2, [.ref q3, .int (nI ((n + 1 + 1 + 1 + 1) + 1 + 1 + 1 + 1))])) := by rw [eh8]; exact (va_up_self _ _ _)
    have fq11 : h8 q3 = some (.inl (E.1 1, 400, .inl (um_app (um_app b n v1) (n + 1 + 1 + 1 + 1) v2))) := by rw [eh8]; exact ((va_up_ne _ _ hne).trans (va_up_self _ _ _))
    refine lv_aload_n hx hb dU_feed_28 rfl (lv_at hl 0 rfl) ?_
    refine va_get (D := D) (ci := 0) (v := .ref qi) (C := "UnitRoom") (T := TU) (N := 6) hx hb hts inU hown hV (ur_one hI.1 fq9) 0 rfl rfl 1 (by decide) (hts _ mw171) (fun _ h9 => h9) rfl dU_feed_29 ?_
    refine lv_iload_n hx hb dU_feed_32 rfl (lv_at hl 3 rfl) ?_
    refine ur_xv (va_runV (As := [.int v3]) (rest := []) ⟨hx, hb, hml, hown, hts⟩ (kN_append l D E h8 qi q3 (um_app (um_app b n v1) (n + 1 + 1 + 1 + 1) v2) ((n + 1 + 1 + 1 + 1) + 1 + 1 + 1 + 1) v3 fq10 fq11 (by first | assumption | omega | decide) H.size) (cwV 1 hts (ur_gV mw197 mw198 mw199 mw3 mw200) rfl rfl rfl (by decide +kernel) ⟨(Nat.le_of_ble_eq_true rfl), (Nat.le_of_ble_eq_true rfl)⟩) ⟨ur_blind, va_recv hV (ur_one hI.1 fq10) (ci := 2) (q0 := 0) rfl rfl, ur_pre hI hO hK (fun _ _ q => q)⟩ rfl rfl hl.1 rfl (lv_room (Nat.le_of_ble_eq_true rfl)) dU_feed_33 ⟨Nat.le_of_ble_eq_true rfl, Nat.le_of_ble_eq_true rfl⟩) hI (fun h12 H locs p12 hI => ?_)
    have eh12 := p12
    have fq13 : h12 q = some (.inr (0, [.ref qm, .ref qi, .ref qr, .ref qd, .long t, .int bg])) := by rw [eh12]; exact ((va_up_ne _ _ (ur_ne fq9 fq10 (by intro z; simp at z))).trans ((va_up_ne _ _ (ur_ne fq9 fq11 (by intro z; simp at z))).trans fq9))
    have fq14 : h12 qi = some (.inr (2, [.ref q3, .int (nI (((n + 1 + 1 + 1 + 1) + 1 + 1 + 1 + 1) + 1 + 1 + 1 + 1))])) := by rw [eh12]; exact (va_up_self _ _ _)
    have fq15 : h12 q3 = some (.inl (E.1 1, 400, .inl (um_app (um_app (um_app b n v1) (n + 1 + 1 + 1 + 1) v2) ((n + 1 + 1 + 1 + 1) + 1 + 1 + 1 + 1) v3))) := by rw [eh12]; exact ((va_up_ne _ _ hne).trans (va_up_self _ _ _))
    refine lv_aload_n hx hb dU_feed_36 rfl (lv_at hl 0 rfl) ?_
    refine va_get (D := D) (ci := 0) (v := .ref qi) (C := "UnitRoom") (T := TU) (N := 6) hx hb hts inU hown hV (ur_one hI.1 fq13) 0 rfl rfl 1 (by decide) (hts _ mw171) (fun _ h9 => h9) rfl dU_feed_37 ?_
    refine lv_iload hx hb dU_feed_40 (lv_at hl 4 rfl) ?_
    refine ur_xv (va_runV (As := [.int v4]) (rest := []) ⟨hx, hb, hml, hown, hts⟩ (kN_append l D E h12 qi q3 (um_app (um_app (um_app b n v1) (n + 1 + 1 + 1 + 1) v2) ((n + 1 + 1 + 1 + 1) + 1 + 1 + 1 + 1) v3) (((n + 1 + 1 + 1 + 1) + 1 + 1 + 1 + 1) + 1 + 1 + 1 + 1) v4 fq14 fq15 (by first | assumption | omega | decide) H.size) (cwV 1 hts (ur_gV mw197 mw198 mw199 mw3 mw200) rfl rfl rfl (by decide +kernel) ⟨(Nat.le_of_ble_eq_true rfl), (Nat.le_of_ble_eq_true rfl)⟩) ⟨ur_blind, va_recv hV (ur_one hI.1 fq14) (ci := 2) (q0 := 0) rfl rfl, ur_pre hI hO hK (fun _ _ q => q)⟩ rfl rfl hl.1 rfl (lv_room (Nat.le_of_ble_eq_true rfl)) dU_feed_42 ⟨Nat.le_of_ble_eq_true rfl, Nat.le_of_ble_eq_true rfl⟩) hI (fun h16 H locs p16 hI => ?_)
    have eh16 := p16
    have fq17 : h16 q = some (.inr (0, [.ref qm, .ref qi, .ref qr, .ref qd, .long t, .int bg])) := by rw [eh16]; exact ((va_up_ne _ _ (ur_ne fq13 fq14 (by intro z; simp at z))).trans ((va_up_ne _ _ (ur_ne fq13 fq15 (by intro z; simp at z))).trans fq13))
    have fq18 : h16 qi = some (.inr (2, [.ref q3, .int (nI ((((n + 1 + 1 + 1 + 1) + 1 + 1 + 1 + 1) + 1 + 1 + 1 + 1) + 1 + 1 + 1 + 1))])) := by rw [eh16]; exact (va_up_self _ _ _)
    have fq19 : h16 q3 = some (.inl (E.1 1, 400, .inl (um_app (um_app (um_app (um_app b n v1) (n + 1 + 1 + 1 + 1) v2) ((n + 1 + 1 + 1 + 1) + 1 + 1 + 1 + 1) v3) (((n + 1 + 1 + 1 + 1) + 1 + 1 + 1 + 1) + 1 + 1 + 1 + 1) v4))) := by rw [eh16]; exact ((va_up_ne _ _ hne).trans (va_up_self _ _ _))
    refine lv_aload_n hx hb dU_feed_45 rfl (lv_at hl 0 rfl) ?_
    refine va_get (D := D) (ci := 0) (v := .ref qi) (C := "UnitRoom") (T := TU) (N := 6) hx hb hts inU hown hV (ur_one hI.1 fq17) 0 rfl rfl 1 (by decide) (hts _ mw171) (fun _ h9 => h9) rfl dU_feed_46 ?_
    refine lv_iload hx hb dU_feed_49 (lv_at hl 5 rfl) ?_
    refine ur_xv (va_runV (As := [.int v5]) (rest := []) ⟨hx, hb, hml, hown, hts⟩ (kN_append l D E h16 qi q3 (um_app (um_app (um_app (um_app b n v1) (n + 1 + 1 + 1 + 1) v2) ((n + 1 + 1 + 1 + 1) + 1 + 1 + 1 + 1) v3) (((n + 1 + 1 + 1 + 1) + 1 + 1 + 1 + 1) + 1 + 1 + 1 + 1) v4) ((((n + 1 + 1 + 1 + 1) + 1 + 1 + 1 + 1) + 1 + 1 + 1 + 1) + 1 + 1 + 1 + 1) v5 fq18 fq19 (by first | assumption | omega | decide) H.size) (cwV 1 hts (ur_gV mw197 mw198 mw199 mw3 mw200) rfl rfl rfl (by decide +kernel) ⟨(Nat.le_of_ble_eq_true rfl), (Nat.le_of_ble_eq_true rfl)⟩) ⟨ur_blind, va_recv hV (ur_one hI.1 fq18) (ci := 2) (q0 := 0) rfl rfl, ur_pre hI hO hK (fun _ _ q => q)⟩ rfl rfl hl.1 rfl (lv_room (Nat.le_of_ble_eq_true rfl)) dU_feed_51 ⟨Nat.le_of_ble_eq_true rfl, Nat.le_of_ble_eq_true rfl⟩) hI (fun h20 H locs p20 hI => ?_)
    have eh20 := p20
    have fq21 : h20 q = some (.inr (0, [.ref qm, .ref qi, .ref qr, .ref qd, .long t, .int bg])) := by rw [eh20]; exact ((va_up_ne _ _ (ur_ne fq17 fq18 (by intro z; simp at z))).trans ((va_up_ne _ _ (ur_ne fq17 fq19 (by intro z; simp at z))).trans fq17))
    have fq22 : h20 qi = some (.inr (2, [.ref q3, .int (nI (((((n + 1 + 1 + 1 + 1) + 1 + 1 + 1 + 1) + 1 + 1 + 1 + 1) + 1 + 1 + 1 + 1) + 1 + 1 + 1 + 1))])) := by rw [eh20]; exact (va_up_self _ _ _)
    have fq23 : h20 q3 = some (.inl (E.1 1, 400, .inl (um_app (um_app (um_app (um_app (um_app b n v1) (n + 1 + 1 + 1 + 1) v2) ((n + 1 + 1 + 1 + 1) + 1 + 1 + 1 + 1) v3) (((n + 1 + 1 + 1 + 1) + 1 + 1 + 1 + 1) + 1 + 1 + 1 + 1) v4) ((((n + 1 + 1 + 1 + 1) + 1 + 1 + 1 + 1) + 1 + 1 + 1 + 1) + 1 + 1 + 1 + 1) v5))) := by rw [eh20]; exact ((va_up_ne _ _ hne).trans (va_up_self _ _ _))
    refine lv_iconst (v := 1) hx hb dU_feed_54 (by decide) ?_
    exact ur_rz hx hb hr hlocks hI hQ rfl ⟨(by rw [k3]; rfl), (by rw [eh20, eh16, eh12, eh8, eh4, ur_alt hne, ur_alt hne, ur_alt hne, ur_alt hne, show um_fdb b n v1 v2 v3 v4 v5 = um_fd b n v1 v2 v3 v4 v5 by simp [um_fdb, k3], show um_fdn n = n + 20 by simp [um_fdn, k3]]; rfl)⟩ dU_feed_55
  · have k24 : (um_room (nI n)) = false := um_b0 er1 c2
    refine lv_iconst (v := 0) hx hb dU_feed_10 (by decide) ?_
    exact ur_rz hx hb hr hlocks hI hQ rfl ⟨(by rw [k24]; rfl), (by rw [show um_fdb b n v1 v2 v3 v4 v5 = b by simp [um_fdb, k24], show um_fdn n = n by simp [um_fdn, k24], ur_same f2]; exact (ur_same f1).symm)⟩ dU_feed_11
theorem dU_end_0 : decode cU_end 0 = .ok (.aload_n 0, 1) := by decide +kernel
theorem dU_end_1 : decode cU_end 1 = .ok (.getfield 19, 3) := by decide +kernel
theorem dU_end_4 : decode cU_end 4 = .ok (.iload_n 1, 1) := by decide +kernel
theorem dU_end_5 : decode cU_end 5 = .ok (.invokevirtual 63, 3) := by decide +kernel
theorem dU_end_8 : decode cU_end 8 = .ok (.ireturn, 1) := by decide +kernel
abbrev rmkU_end : Room := { frames := 1, cells := 0, slots := 0, locals := 21 }
set_option maxHeartbeats 4000000 in
set_option maxRecDepth 100000 in
theorem kU_end (l : Launch) (D : va_G) (E : ur_Ev) (h : ur_M) (q : Nat) (qm : Nat) (qi : Nat) (qr : Nat) (qd : Nat) (t : Int64) (bg : Int32) (q3 : Nat) (x : Int32) (n : Int32) (f0 : h q = some (.inr (0, [.ref qm, .ref qi, .ref qr, .ref qd, .long t, .int bg]))) (f1 : h qi = some (.inr (2, [.ref q3, .int x])))  : ur_Mi l yU_end wsU_end rmkU_end D vwCl (ur_v E) [.ref q, .int n] h (fun r h2 => r = um_b (um_cutok x n) ∧ h2 = va_up h qi (some (.inr (2, [.ref q3, .int (um_cutn x n)])))) 0 0 := by
  intro sz
  refine ur_of (cc := cU_end) (maxL := 2) (ret := (some .boolean)) (by decide) rfl (Nat.le_of_ble_eq_true rfl) ?_
  intro p e s m args below meth c ls Q hsz hx hb hml hr hlocks hnm hown hts hO hK hI hQ hl
  subst hsz
  have hV := hK.1
  have hts : ∀ w ∈ ur_G, w.before args s = true := fun w hw => hts w (List.mem_cons_of_mem _ hw)
  have hZ : ur_Z E (ur_A h s.heap.size) s s.heap := hO.1
  have hown : s.vm.findClass "UnitRoom" = some m.cls := hown
  have hl : lv_has ls 2 [(0, .ref q), (1, .int n)] := hl
  refine lv_aload_n hx hb dU_end_0 rfl (lv_at hl 0 rfl) ?_
  refine va_get (D := D) (ci := 0) (v := .ref qi) (C := "UnitRoom") (T := TU) (N := 6) hx hb hts inU hown hV (ur_one hI.1 f0) 0 rfl rfl 1 (by decide) (hts _ mw171) (fun _ h9 => h9) rfl dU_end_1 ?_
  refine lv_iload_n hx hb dU_end_4 rfl (lv_at hl 1 rfl) ?_
  refine ur_xi (va_runV (As := [.int n]) (rest := []) ⟨hx, hb, hml, hown, hts⟩ (kN_cut l D E h qi q3 x n f1 s.heap.size) (cwV 1 hts (ur_gV mw205 mw206 mw207 mw3 mw208) rfl rfl rfl (by decide +kernel) ⟨(Nat.le_of_ble_eq_true rfl), (Nat.le_of_ble_eq_true rfl)⟩) ⟨ur_blind, va_recv hV (ur_one hI.1 f1) (ci := 2) (q0 := 0) rfl rfl, ur_pre hI hO hK (fun _ _ q => q)⟩ rfl rfl hl.1 rfl (lv_room (Nat.le_of_ble_eq_true rfl)) dU_end_5 ⟨Nat.le_of_ble_eq_true rfl, Nat.le_of_ble_eq_true rfl⟩) hI (fun r1 h1 H locs p1 hI => ?_)
  obtain ⟨er1, eh1⟩ := p1
  have fq2 : h1 q = some (.inr (0, [.ref qm, .ref qi, .ref qr, .ref qd, .long t, .int bg])) := by rw [eh1]; exact ((va_up_ne _ _ (ur_ne f0 f1 (by intro z; simp at z))).trans f0)
  have fq3 : h1 qi = some (.inr (2, [.ref q3, .int (um_cutn x n)])) := by rw [eh1]; exact (va_up_self _ _ _)
  exact ur_rz hx hb hr hlocks hI hQ (by rw [er1]; exact um_b_nar _) ⟨er1, eh1⟩ dU_end_8
theorem dU_set_0 : decode cU_set 0 = .ok (.aload_n 0, 1) := by decide +kernel
theorem dU_set_1 : decode cU_set 1 = .ok (.getfield 10, 3) := by decide +kernel
theorem dU_set_4 : decode cU_set 4 = .ok (.iload_n 1, 1) := by decide +kernel
theorem dU_set_5 : decode cU_set 5 = .ok (.iconst 1, 1) := by decide +kernel
theorem dU_set_6 : decode cU_set 6 = .ok (.invokevirtual 67, 3) := by decide +kernel
theorem dU_set_9 : decode cU_set 9 = .ok (.ifCond .eq 15, 3) := by decide +kernel
theorem dU_set_12 : decode cU_set 12 = .ok (.iload_n 2, 1) := by decide +kernel
theorem dU_set_13 : decode cU_set 13 = .ok (.ldc 71, 2) := by decide +kernel
theorem dU_set_15 : decode cU_set 15 = .ok (.if_icmp .le 9, 3) := by decide +kernel
theorem dU_set_18 : decode cU_set 18 = .ok (.iload_n 2, 1) := by decide +kernel
theorem dU_set_19 : decode cU_set 19 = .ok (.ldc 72, 2) := by decide +kernel
theorem dU_set_21 : decode cU_set 21 = .ok (.if_icmp .lt 5, 3) := by decide +kernel
theorem dU_set_24 : decode cU_set 24 = .ok (.iconst 0, 1) := by decide +kernel
theorem dU_set_25 : decode cU_set 25 = .ok (.ireturn, 1) := by decide +kernel
theorem dU_set_26 : decode cU_set 26 = .ok (.aload_n 0, 1) := by decide +kernel
theorem dU_set_27 : decode cU_set 27 = .ok (.getfield 10, 3) := by decide +kernel
theorem dU_set_30 : decode cU_set 30 = .ok (.iload_n 1, 1) := by decide +kernel
theorem dU_set_31 : decode cU_set 31 = .ok (.iload_n 3, 1) := by decide +kernel
theorem dU_set_32 : decode cU_set 32 = .ok (.ifCond .eq 12, 3) := by decide +kernel
theorem dU_set_35 : decode cU_set 35 = .ok (.iload_n 2, 1) := by decide +kernel
theorem dU_set_36 : decode cU_set 36 = .ok (.ifCond .ne 8, 3) := by decide +kernel
theorem dU_set_39 : decode cU_set 39 = .ok (.ldc 73, 2) := by decide +kernel
theorem dU_set_41 : decode cU_set 41 = .ok (.goto 4, 3) := by decide +kernel
theorem dU_set_44 : decode cU_set 44 = .ok (.iload_n 2, 1) := by decide +kernel
theorem dU_set_45 : decode cU_set 45 = .ok (.invokevirtual 74, 3) := by decide +kernel
theorem dU_set_48 : decode cU_set 48 = .ok (.iconst 1, 1) := by decide +kernel
theorem dU_set_49 : decode cU_set 49 = .ok (.ireturn, 1) := by decide +kernel
abbrev rmkU_set : Room := { frames := 2, cells := 0, slots := 0, locals := 44 }
set_option maxHeartbeats 4000000 in
set_option maxRecDepth 100000 in
theorem kU_set (l : Launch) (D : va_G) (E : ur_Ev) (h : ur_M) (q : Nat) (qm : Nat) (qi : Nat) (qr : Nat) (qd : Nat) (t : Int64) (bg : Int32) (q1 : Nat) (g : Nat → Int32) (a : Int32) (v : Int32) (z : Int32) (f0 : h q = some (.inr (0, [.ref qm, .ref qi, .ref qr, .ref qd, .long t, .int bg]))) (f1 : h qm = some (.inr (1, [.ref q1]))) (f2 : h q1 = some (.inl (E.1 0, 4000, .inl g)))  : ur_Mi l yU_set wsU_set rmkU_set D vwCl (ur_v E) [.ref q, .int a, .int v, .int z] h (fun r h2 => r = um_b (um_setok a v) ∧ h2 = va_up h q1 (some (.inl (E.1 0, 4000, .inl (um_set g a v z))))) 0 0 := by
  intro sz
  refine ur_of (cc := cU_set) (maxL := 4) (ret := (some .boolean)) (by decide) rfl (Nat.le_of_ble_eq_true rfl) ?_
  intro p e s m args below meth c ls Q hsz hx hb hml hr hlocks hnm hown hts hO hK hI hQ hl
  subst hsz
  have hV := hK.1
  have hts : ∀ w ∈ ur_G, w.before args s = true := fun w hw => hts w (List.mem_cons_of_mem _ hw)
  have hZ : ur_Z E (ur_A h s.heap.size) s s.heap := hO.1
  have hown : s.vm.findClass "UnitRoom" = some m.cls := hown
  have hl : lv_has ls 4 [(0, .ref q), (1, .int a), (2, .int v), (3, .int z)] := hl
  refine lv_aload_n hx hb dU_set_0 rfl (lv_at hl 0 rfl) ?_
  refine va_get (D := D) (ci := 0) (v := .ref qm) (C := "UnitRoom") (T := TU) (N := 6) hx hb hts inU hown hV (ur_one hI.1 f0) 0 rfl rfl 0 (by decide) (hts _ mw170) (fun _ h9 => h9) rfl dU_set_1 ?_
  refine lv_iload_n hx hb dU_set_4 rfl (lv_at hl 1 rfl) ?_
  refine lv_iconst (v := 1) hx hb dU_set_5 (by decide) ?_
  refine ur_xi (va_runV (As := [.int a, .int 1]) (rest := []) ⟨hx, hb, hml, hown, hts⟩ (kM_h l D E h qm q1 g a 1 f1 f2 s.heap.size) (cwV 2 hts (ur_gV mw213 mw214 mw215 mw2 mw216) rfl rfl rfl (by decide +kernel) ⟨(Nat.le_of_ble_eq_true rfl), (Nat.le_of_ble_eq_true rfl)⟩) ⟨ur_blind, va_recv hV (ur_one hI.1 f1) (ci := 1) (q0 := 0) rfl rfl, ur_pre hI hO hK (fun _ _ q => q)⟩ rfl rfl hl.1 rfl (lv_room (Nat.le_of_ble_eq_true rfl)) dU_set_6 ⟨Nat.le_of_ble_eq_true rfl, Nat.le_of_ble_eq_true rfl⟩) hI (fun r1 h1 H locs p1 hI => ?_)
  obtain ⟨er1, eh1⟩ := p1
  replace eh1 := eh1.symm; subst eh1
  refine lv_if_eq (tgt := 24) hx hb dU_set_9 (by decide) (fun c2 => ?_) (fun c2 => ?_)
  · have k3 : (um_holds a 1) = false := um_b0 er1 c2
    refine lv_iconst (v := 0) hx hb dU_set_24 (by decide) ?_
    exact ur_rz hx hb hr hlocks hI hQ rfl ⟨(by simp [um_setok, k3]; rfl), (by rw [show um_set g a v z = g by simp [um_set, um_setok, k3]]; exact (ur_same f2).symm)⟩ dU_set_25
  · have k4 : (um_holds a 1) = true := um_b1 er1 c2
    refine lv_iload_n hx hb dU_set_12 rfl (lv_at hl 2 rfl) ?_
    refine lv_ldc (v := (-1073741824)) hx hb hown (hts _ mw217) dU_set_13 ?_
    refine lv_icmp_le (tgt := 24) hx hb dU_set_15 (by decide) (fun c5 => ?_) (fun c5 => ?_)
    · refine lv_iconst (v := 0) hx hb dU_set_24 (by decide) ?_
      exact ur_rz hx hb hr hlocks hI hQ rfl ⟨(by simp [um_setok, k4, c5]; rfl), (by rw [show um_set g a v z = g by simp [um_set, um_setok, k4, c5]]; exact (ur_same f2).symm)⟩ dU_set_25
    · refine lv_iload_n hx hb dU_set_18 rfl (lv_at hl 2 rfl) ?_
      refine lv_ldc (v := 1073741824) hx hb hown (hts _ mw218) dU_set_19 ?_
      refine lv_icmp_lt (tgt := 26) hx hb dU_set_21 (by decide) (fun c6 => ?_) (fun c6 => ?_)
      · refine lv_aload_n hx hb dU_set_26 rfl (lv_at hl 0 rfl) ?_
        refine va_get (D := D) (ci := 0) (v := .ref qm) (C := "UnitRoom") (T := TU) (N := 6) hx hb hts inU hown hV (ur_one hI.1 f0) 0 rfl rfl 0 (by decide) (hts _ mw170) (fun _ h9 => h9) rfl dU_set_27 ?_
        refine lv_iload_n hx hb dU_set_30 rfl (lv_at hl 1 rfl) ?_
        refine lv_iload_n hx hb dU_set_31 rfl (lv_at hl 3 rfl) ?_
        refine lv_if_eq (tgt := 44) hx hb dU_set_32 (by decide) (fun c7 => ?_) (fun c7 => ?_)
        · refine lv_iload_n hx hb dU_set_44 rfl (lv_at hl 2 rfl) ?_
          refine ur_xv (va_runV (As := [.int a, .int v]) (rest := []) ⟨hx, hb, hml, hown, hts⟩ (kM_put l D E h qm q1 g a v f1 f2 H.size) (cwV 2 hts (ur_gV mw220 mw221 mw222 mw2 mw223) rfl rfl rfl (by decide +kernel) ⟨(Nat.le_of_ble_eq_true rfl), (Nat.le_of_ble_eq_true rfl)⟩) ⟨ur_blind, va_recv hV (ur_one hI.1 f1) (ci := 1) (q0 := 0) rfl rfl, ur_pre hI hO hK (fun _ _ q => q)⟩ rfl rfl hl.1 rfl (lv_room (Nat.le_of_ble_eq_true rfl)) dU_set_45 ⟨Nat.le_of_ble_eq_true rfl, Nat.le_of_ble_eq_true rfl⟩) hI (fun h8 H locs p8 hI => ?_)
          have eh8 := p8
          have fq9 : h8 q = some (.inr (0, [.ref qm, .ref qi, .ref qr, .ref qd, .long t, .int bg])) := by rw [eh8]; exact ((va_up_ne _ _ (ur_ne f0 f2 (by intro z; simp at z))).trans f0)
          have fq10 : h8 qm = some (.inr (1, [.ref q1])) := by rw [eh8]; exact ((va_up_ne _ _ (ur_ne f1 f2 (by intro z; simp at z))).trans f1)
          have fq11 : h8 q1 = some (.inl (E.1 0, 4000, .inl (um_put g a v))) := by rw [eh8]; exact (va_up_self _ _ _)
          refine lv_iconst (v := 1) hx hb dU_set_48 (by decide) ?_
          exact ur_rz hx hb hr hlocks hI hQ rfl ⟨(by rw [(show um_setok a v = true by unfold um_setok; rw [if_pos k4, if_neg c5, if_pos c6])]; rfl), (by rw [eh8, show um_set g a v z = um_put g a (um_setv v z) by unfold um_set; rw [if_pos (show um_setok a v = true by unfold um_setok; rw [if_pos k4, if_neg c5, if_pos c6])], show um_setv v z = v by unfold um_setv; rw [if_pos c7]])⟩ dU_set_49
        · refine lv_iload_n hx hb dU_set_35 rfl (lv_at hl 2 rfl) ?_
          refine lv_if_ne (tgt := 44) hx hb dU_set_36 (by decide) (fun c12 => ?_) (fun c12 => ?_)
          · refine lv_iload_n hx hb dU_set_44 rfl (lv_at hl 2 rfl) ?_
            refine ur_xv (va_runV (As := [.int a, .int v]) (rest := []) ⟨hx, hb, hml, hown, hts⟩ (kM_put l D E h qm q1 g a v f1 f2 H.size) (cwV 2 hts (ur_gV mw220 mw221 mw222 mw2 mw223) rfl rfl rfl (by decide +kernel) ⟨(Nat.le_of_ble_eq_true rfl), (Nat.le_of_ble_eq_true rfl)⟩) ⟨ur_blind, va_recv hV (ur_one hI.1 f1) (ci := 1) (q0 := 0) rfl rfl, ur_pre hI hO hK (fun _ _ q => q)⟩ rfl rfl hl.1 rfl (lv_room (Nat.le_of_ble_eq_true rfl)) dU_set_45 ⟨Nat.le_of_ble_eq_true rfl, Nat.le_of_ble_eq_true rfl⟩) hI (fun h13 H locs p13 hI => ?_)
            have eh13 := p13
            have fq14 : h13 q = some (.inr (0, [.ref qm, .ref qi, .ref qr, .ref qd, .long t, .int bg])) := by rw [eh13]; exact ((va_up_ne _ _ (ur_ne f0 f2 (by intro z; simp at z))).trans f0)
            have fq15 : h13 qm = some (.inr (1, [.ref q1])) := by rw [eh13]; exact ((va_up_ne _ _ (ur_ne f1 f2 (by intro z; simp at z))).trans f1)
            have fq16 : h13 q1 = some (.inl (E.1 0, 4000, .inl (um_put g a v))) := by rw [eh13]; exact (va_up_self _ _ _)
            refine lv_iconst (v := 1) hx hb dU_set_48 (by decide) ?_
            exact ur_rz hx hb hr hlocks hI hQ rfl ⟨(by rw [(show um_setok a v = true by unfold um_setok; rw [if_pos k4, if_neg c5, if_pos c6])]; rfl), (by rw [eh13, show um_set g a v z = um_put g a (um_setv v z) by unfold um_set; rw [if_pos (show um_setok a v = true by unfold um_setok; rw [if_pos k4, if_neg c5, if_pos c6])], show um_setv v z = v by unfold um_setv; rw [if_neg c7, if_neg c12]])⟩ dU_set_49
          · refine lv_ldc (v := (-2147483648)) hx hb hown (hts _ mw219) dU_set_39 ?_
            refine lv_goto (tgt := 45) hx hb dU_set_41 (by decide) ?_
            refine ur_xv (va_runV (As := [.int a, .int (-2147483648)]) (rest := []) ⟨hx, hb, hml, hown, hts⟩ (kM_put l D E h qm q1 g a (-2147483648) f1 f2 H.size) (cwV 2 hts (ur_gV mw220 mw221 mw222 mw2 mw223) rfl rfl rfl (by decide +kernel) ⟨(Nat.le_of_ble_eq_true rfl), (Nat.le_of_ble_eq_true rfl)⟩) ⟨ur_blind, va_recv hV (ur_one hI.1 f1) (ci := 1) (q0 := 0) rfl rfl, ur_pre hI hO hK (fun _ _ q => q)⟩ rfl rfl hl.1 rfl (lv_room (Nat.le_of_ble_eq_true rfl)) dU_set_45 ⟨Nat.le_of_ble_eq_true rfl, Nat.le_of_ble_eq_true rfl⟩) hI (fun h17 H locs p17 hI => ?_)
            have eh17 := p17
            have fq18 : h17 q = some (.inr (0, [.ref qm, .ref qi, .ref qr, .ref qd, .long t, .int bg])) := by rw [eh17]; exact ((va_up_ne _ _ (ur_ne f0 f2 (by intro z; simp at z))).trans f0)
            have fq19 : h17 qm = some (.inr (1, [.ref q1])) := by rw [eh17]; exact ((va_up_ne _ _ (ur_ne f1 f2 (by intro z; simp at z))).trans f1)
            have fq20 : h17 q1 = some (.inl (E.1 0, 4000, .inl (um_put g a (-2147483648)))) := by rw [eh17]; exact (va_up_self _ _ _)
            refine lv_iconst (v := 1) hx hb dU_set_48 (by decide) ?_
            exact ur_rz hx hb hr hlocks hI hQ rfl ⟨(by rw [(show um_setok a v = true by unfold um_setok; rw [if_pos k4, if_neg c5, if_pos c6])]; rfl), (by rw [eh17, show um_set g a v z = um_put g a (um_setv v z) by unfold um_set; rw [if_pos (show um_setok a v = true by unfold um_setok; rw [if_pos k4, if_neg c5, if_pos c6])], show um_setv v z = (-2147483648) by unfold um_setv; rw [if_neg c7, if_pos c12]])⟩ dU_set_49
      · refine lv_iconst (v := 0) hx hb dU_set_24 (by decide) ?_
        exact ur_rz hx hb hr hlocks hI hQ rfl ⟨(by simp [um_setok, k4, c5, c6]; rfl), (by rw [show um_set g a v z = g by simp [um_set, um_setok, k4, c5, c6]]; exact (ur_same f2).symm)⟩ dU_set_25
theorem dU_fill_0 : decode cU_fill 0 = .ok (.iload_n 2, 1) := by decide +kernel
theorem dU_fill_1 : decode cU_fill 1 = .ok (.iconst 1, 1) := by decide +kernel
theorem dU_fill_2 : decode cU_fill 2 = .ok (.if_icmp .lt 22, 3) := by decide +kernel
theorem dU_fill_5 : decode cU_fill 5 = .ok (.iload_n 2, 1) := by decide +kernel
theorem dU_fill_6 : decode cU_fill 6 = .ok (.sipush 200, 3) := by decide +kernel
theorem dU_fill_9 : decode cU_fill 9 = .ok (.if_icmp .gt 15, 3) := by decide +kernel
theorem dU_fill_12 : decode cU_fill 12 = .ok (.aload_n 0, 1) := by decide +kernel
theorem dU_fill_13 : decode cU_fill 13 = .ok (.getfield 10, 3) := by decide +kernel
theorem dU_fill_16 : decode cU_fill 16 = .ok (.iload_n 1, 1) := by decide +kernel
theorem dU_fill_17 : decode cU_fill 17 = .ok (.iload_n 2, 1) := by decide +kernel
theorem dU_fill_18 : decode cU_fill 18 = .ok (.invokevirtual 67, 3) := by decide +kernel
theorem dU_fill_21 : decode cU_fill 21 = .ok (.ifCond .ne 5, 3) := by decide +kernel
theorem dU_fill_24 : decode cU_fill 24 = .ok (.iconst 0, 1) := by decide +kernel
theorem dU_fill_25 : decode cU_fill 25 = .ok (.ireturn, 1) := by decide +kernel
theorem dU_fill_26 : decode cU_fill 26 = .ok (.iconst 0, 1) := by decide +kernel
theorem dU_fill_27 : decode cU_fill 27 = .ok (.istore 4, 2) := by decide +kernel
theorem dU_fill_29 : decode cU_fill 29 = .ok (.iload 4, 2) := by decide +kernel
theorem dU_fill_31 : decode cU_fill 31 = .ok (.iload_n 2, 1) := by decide +kernel
theorem dU_fill_32 : decode cU_fill 32 = .ok (.if_icmp .ge 31, 3) := by decide +kernel
theorem dU_fill_35 : decode cU_fill 35 = .ok (.aload_n 0, 1) := by decide +kernel
theorem dU_fill_36 : decode cU_fill 36 = .ok (.getfield 10, 3) := by decide +kernel
theorem dU_fill_39 : decode cU_fill 39 = .ok (.iload_n 1, 1) := by decide +kernel
theorem dU_fill_40 : decode cU_fill 40 = .ok (.iload 4, 2) := by decide +kernel
theorem dU_fill_42 : decode cU_fill 42 = .ok (.iadd, 1) := by decide +kernel
theorem dU_fill_43 : decode cU_fill 43 = .ok (.iload_n 3, 1) := by decide +kernel
theorem dU_fill_44 : decode cU_fill 44 = .ok (.sipush 12345, 3) := by decide +kernel
theorem dU_fill_47 : decode cU_fill 47 = .ok (.iload 4, 2) := by decide +kernel
theorem dU_fill_49 : decode cU_fill 49 = .ok (.imul, 1) := by decide +kernel
theorem dU_fill_50 : decode cU_fill 50 = .ok (.iadd, 1) := by decide +kernel
theorem dU_fill_51 : decode cU_fill 51 = .ok (.ldc 78, 2) := by decide +kernel
theorem dU_fill_53 : decode cU_fill 53 = .ok (.iand, 1) := by decide +kernel
theorem dU_fill_54 : decode cU_fill 54 = .ok (.invokevirtual 74, 3) := by decide +kernel
theorem dU_fill_57 : decode cU_fill 57 = .ok (.iinc 4 1, 3) := by decide +kernel
theorem dU_fill_60 : decode cU_fill 60 = .ok (.goto (-31), 3) := by decide +kernel
theorem dU_fill_63 : decode cU_fill 63 = .ok (.iconst 1, 1) := by decide +kernel
theorem dU_fill_64 : decode cU_fill 64 = .ok (.ireturn, 1) := by decide +kernel
abbrev rmkU_fill : Room := { frames := 2, cells := 0, slots := 0, locals := 44 }
set_option maxHeartbeats 4000000 in
set_option maxRecDepth 100000 in
theorem kU_fill (l : Launch) (D : va_G) (E : ur_Ev) (h : ur_M) (q : Nat) (qm : Nat) (qi : Nat) (qr : Nat) (qd : Nat) (t : Int64) (bg : Int32) (q1 : Nat) (g : Nat → Int32) (a : Int32) (n : Int32) (sd : Int32) (f0 : h q = some (.inr (0, [.ref qm, .ref qi, .ref qr, .ref qd, .long t, .int bg]))) (f1 : h qm = some (.inr (1, [.ref q1]))) (f2 : h q1 = some (.inl (E.1 0, 4000, .inl g)))  : ur_Mi l yU_fill wsU_fill rmkU_fill D vwCl (ur_v E) [.ref q, .int a, .int n, .int sd] h (fun r h2 => r = um_b (um_fillok a n) ∧ h2 = va_up h q1 (some (.inl (E.1 0, 4000, .inl (um_fill g a n sd))))) 0 0 := by
  intro sz
  refine ur_of (cc := cU_fill) (maxL := 5) (ret := (some .boolean)) (by decide) rfl (Nat.le_of_ble_eq_true rfl) ?_
  intro p e s m args below meth c ls Q hsz hx hb hml hr hlocks hnm hown hts hO hK hI hQ hl
  subst hsz
  have hV := hK.1
  have hts : ∀ w ∈ ur_G, w.before args s = true := fun w hw => hts w (List.mem_cons_of_mem _ hw)
  have hZ : ur_Z E (ur_A h s.heap.size) s s.heap := hO.1
  have hown : s.vm.findClass "UnitRoom" = some m.cls := hown
  have hl : lv_has ls 5 [(0, .ref q), (1, .int a), (2, .int n), (3, .int sd)] := hl
  refine lv_iload_n hx hb dU_fill_0 rfl (lv_at hl 2 rfl) ?_
  refine lv_iconst (v := 1) hx hb dU_fill_1 (by decide) ?_
  refine lv_icmp_lt (tgt := 24) hx hb dU_fill_2 (by decide) (fun c1 => ?_) (fun c1 => ?_)
  · refine lv_iconst (v := 0) hx hb dU_fill_24 (by decide) ?_
    exact ur_rz hx hb hr hlocks hI hQ rfl ⟨(by simp only [um_fillok, c1, ↓reduceIte]; rfl), (by rw [show um_fill g a n sd = g by simp [um_fill, um_fillok, c1]]; exact (ur_same f2).symm)⟩ dU_fill_25
  · refine lv_iload_n hx hb dU_fill_5 rfl (lv_at hl 2 rfl) ?_
    refine lv_sipush (v := 200) hx hb dU_fill_6 (by decide) ?_
    refine lv_icmp_gt (tgt := 24) hx hb dU_fill_9 (by decide) (fun c2 => ?_) (fun c2 => ?_)
    · refine lv_iconst (v := 0) hx hb dU_fill_24 (by decide) ?_
      exact ur_rz hx hb hr hlocks hI hQ rfl ⟨(by simp only [um_fillok, c1, c2, ↓reduceIte]; rfl), (by rw [show um_fill g a n sd = g by simp [um_fill, um_fillok, c1, c2]]; exact (ur_same f2).symm)⟩ dU_fill_25
    · refine lv_aload_n hx hb dU_fill_12 rfl (lv_at hl 0 rfl) ?_
      refine va_get (D := D) (ci := 0) (v := .ref qm) (C := "UnitRoom") (T := TU) (N := 6) hx hb hts inU hown hV (ur_one hI.1 f0) 0 rfl rfl 0 (by decide) (hts _ mw170) (fun _ h9 => h9) rfl dU_fill_13 ?_
      refine lv_iload_n hx hb dU_fill_16 rfl (lv_at hl 1 rfl) ?_
      refine lv_iload_n hx hb dU_fill_17 rfl (lv_at hl 2 rfl) ?_
      refine ur_xi (va_runV (As := [.int a, .int n]) (rest := []) ⟨hx, hb, hml, hown, hts⟩ (kM_h l D E h qm q1 g a n f1 f2 s.heap.size) (cwV 2 hts (ur_gV mw213 mw214 mw215 mw2 mw216) rfl rfl rfl (by decide +kernel) ⟨(Nat.le_of_ble_eq_true rfl), (Nat.le_of_ble_eq_true rfl)⟩) ⟨ur_blind, va_recv hV (ur_one hI.1 f1) (ci := 1) (q0 := 0) rfl rfl, ur_pre hI hO hK (fun _ _ q => q)⟩ rfl rfl hl.1 rfl (lv_room (Nat.le_of_ble_eq_true rfl)) dU_fill_18 ⟨Nat.le_of_ble_eq_true rfl, Nat.le_of_ble_eq_true rfl⟩) hI (fun r3 h3 H locs p3 hI => ?_)
      obtain ⟨er3, eh3⟩ := p3
      replace eh3 := eh3.symm; subst eh3
      refine lv_if_ne (tgt := 26) hx hb dU_fill_21 (by decide) (fun c4 => ?_) (fun c4 => ?_)
      · have k5 : (um_holds a n) = true := um_b1 er3 c4
        obtain ⟨nn, hnn, hn9⟩ := um_200 c1 c2
        refine lv_iconst (v := 0) hx hb dU_fill_26 (by decide) ?_
        refine lv_istore (lv' := [(4, .int 0), (0, .ref q), (1, .int a), (2, .int n), (3, .int sd)]) hx hb dU_fill_27 hl (by decide) rfl (fun ls hl => ?_)
        have lpn6 : ∀ (n6 : Nat) (k : Nat) (hn6 : ur_M) (H : Heap) (locs : List Loc) (ls : Array Slot), nn - k < n6 → (k ≤ nn) → hn6 = va_up h q1 (some (.inl (E.1 0, 4000, .inl (um_fillF g a sd k)))) → ur_I D vwCl (ur_A h s.heap.size) s.heap hn6 H locs → lv_has ls 5 [(0, .ref q), (1, .int a), (2, .int n), (3, .int sd), (4, .int (nI k))] → W p l e rmkU_fill s m args below meth c H locs 0 0 Q (F0 m 29 ls []) := by
          intro n6
          induction n6 with
          | zero => intro k hn6 H locs ls hnn6; exact absurd hnn6 (Nat.not_lt_zero _)
          | succ n6 ihn6 =>
            intro k hn6 H locs ls hnn6 hk ehn6 hI hl
            have fq7 : hn6 q = some (.inr (0, [.ref qm, .ref qi, .ref qr, .ref qd, .long t, .int bg])) := by rw [ehn6]; exact (va_up_ne _ _ (ur_ne f0 f2 (by intro z; simp at z))).trans f0
            have fq8 : hn6 qm = some (.inr (1, [.ref q1])) := by rw [ehn6]; exact (va_up_ne _ _ (ur_ne f1 f2 (by intro z; simp at z))).trans f1
            have fq9 : hn6 q1 = some (.inl (E.1 0, 4000, .inl (um_fillF g a sd k))) := by rw [ehn6]; exact va_up_self _ _ _
            refine lv_iload hx hb dU_fill_29 (lv_at hl 4 rfl) ?_
            refine lv_iload_n hx hb dU_fill_31 rfl (lv_at hl 2 rfl) ?_
            refine lv_icmp_ge (tgt := 63) hx hb dU_fill_32 (by decide) (fun c10 => ?_) (fun c10 => ?_)
            · have he9 : k = nn := Nat.le_antisymm hk (Nat.not_lt.mp (fun z9 => by rw [hn9] at c10; exact nI_ge z9 (by omega) c10))
              refine lv_iconst (v := 1) hx hb dU_fill_63 (by decide) ?_
              exact ur_rz hx hb hr hlocks hI hQ rfl ⟨(by simp only [um_fillok, c1, c2, k5, ↓reduceIte]; rfl), (by rw [ehn6, show um_fill g a n sd = um_fillF g a sd n.toNatClampNeg by simp only [um_fill, um_fillok, c1, c2, k5, ↓reduceIte], hn9, nI_clamp (by omega), he9])⟩ dU_fill_64
            · have hlt : k < nn := Nat.not_le.mp (fun z9 => c10 (by rw [hn9]; exact nI_le z9 (by omega)))
              refine lv_aload_n hx hb dU_fill_35 rfl (lv_at hl 0 rfl) ?_
              refine va_get (D := D) (ci := 0) (v := .ref qm) (C := "UnitRoom") (T := TU) (N := 6) hx hb hts inU hown hV (ur_one hI.1 fq7) 0 rfl rfl 0 (by decide) (hts _ mw170) (fun _ h9 => h9) rfl dU_fill_36 ?_
              refine lv_iload_n hx hb dU_fill_39 rfl (lv_at hl 1 rfl) ?_
              refine lv_iload hx hb dU_fill_40 (lv_at hl 4 rfl) ?_
              refine lv_iadd hx hb dU_fill_42 ?_
              refine lv_iload_n hx hb dU_fill_43 rfl (lv_at hl 3 rfl) ?_
              refine lv_sipush (v := 12345) hx hb dU_fill_44 (by decide) ?_
              refine lv_iload hx hb dU_fill_47 (lv_at hl 4 rfl) ?_
              refine lv_imul hx hb dU_fill_49 ?_
              refine lv_iadd hx hb dU_fill_50 ?_
              refine lv_ldc (v := 1073741823) hx hb hown (hts _ mw229) dU_fill_51 ?_
              refine lv_iand hx hb dU_fill_53 ?_
              refine ur_xv (va_runV (As := [.int (a + (nI k)), .int ((sd + (12345 * (nI k))) &&& 1073741823)]) (rest := []) ⟨hx, hb, hml, hown, hts⟩ (kM_put l D E hn6 qm q1 (um_fillF g a sd k) (a + (nI k)) ((sd + (12345 * (nI k))) &&& 1073741823) fq8 fq9 H.size) (cwV 2 hts (ur_gV mw220 mw221 mw222 mw2 mw223) rfl rfl rfl (by decide +kernel) ⟨(Nat.le_of_ble_eq_true rfl), (Nat.le_of_ble_eq_true rfl)⟩) ⟨ur_blind, va_recv hV (ur_one hI.1 fq8) (ci := 1) (q0 := 0) rfl rfl, ur_pre hI hO hK (fun _ _ q => q)⟩ rfl rfl hl.1 rfl (lv_room (Nat.le_of_ble_eq_true rfl)) dU_fill_54 ⟨Nat.le_of_ble_eq_true rfl, Nat.le_of_ble_eq_true rfl⟩) hI (fun h11 H locs p11 hI => ?_)
              have eh11 := p11
              have fq12 : h11 q = some (.inr (0, [.ref qm, .ref qi, .ref qr, .ref qd, .long t, .int bg])) := by rw [eh11]; exact ((va_up_ne _ _ (ur_ne fq7 fq9 (by intro z; simp at z))).trans fq7)
              have fq13 : h11 qm = some (.inr (1, [.ref q1])) := by rw [eh11]; exact ((va_up_ne _ _ (ur_ne fq8 fq9 (by intro z; simp at z))).trans fq8)
              have fq14 : h11 q1 = some (.inl (E.1 0, 4000, .inl (um_put (um_fillF g a sd k) (a + (nI k)) ((sd + (12345 * (nI k))) &&& 1073741823)))) := by rw [eh11]; exact (va_up_self _ _ _)
              refine lv_iinc (v := ((nI k) + 1)) (lv' := [(4, .int ((nI k) + 1)), (0, .ref q), (1, .int a), (2, .int n), (3, .int sd)]) hx hb dU_fill_57 hl (k := 4) rfl rfl (by decide) rfl (fun ls hl => ?_)
              refine lv_goto (tgt := 29) hx hb dU_fill_60 (by decide) ?_
              rw [nI_1] at hl
              exact ihn6 (k + 1) h11 H locs ls (by omega) hlt (by rw [eh11, ehn6, bx_uu]; rfl) hI (lv_sub hl [1, 2, 3, 4, 0] rfl)
        exact lpn6 _ 0 h _ _ ls (Nat.lt_succ_self _) (Nat.zero_le _) ((ur_same f2).symm) hI (lv_sub hl [1, 2, 3, 4, 0] rfl)
      · have k15 : (um_holds a n) = false := um_b0 er3 c4
        refine lv_iconst (v := 0) hx hb dU_fill_24 (by decide) ?_
        exact ur_rz hx hb hr hlocks hI hQ rfl ⟨(by simp only [um_fillok, c1, c2, k15, ↓reduceIte]; rfl), (by rw [show um_fill g a n sd = g by simp [um_fill, um_fillok, c1, c2, k15]]; exact (ur_same f2).symm)⟩ dU_fill_25
theorem dU_word_0 : decode cU_word 0 = .ok (.aload_n 0, 1) := by decide +kernel
theorem dU_word_1 : decode cU_word 1 = .ok (.getfield 10, 3) := by decide +kernel
theorem dU_word_4 : decode cU_word 4 = .ok (.iload_n 1, 1) := by decide +kernel
theorem dU_word_5 : decode cU_word 5 = .ok (.invokevirtual 79, 3) := by decide +kernel
theorem dU_word_8 : decode cU_word 8 = .ok (.ireturn, 1) := by decide +kernel
abbrev rmkU_word : Room := { frames := 2, cells := 0, slots := 0, locals := 43 }
set_option maxHeartbeats 4000000 in
set_option maxRecDepth 100000 in
theorem kU_word (l : Launch) (D : va_G) (E : ur_Ev) (h : ur_M) (q : Nat) (qm : Nat) (qi : Nat) (qr : Nat) (qd : Nat) (t : Int64) (bg : Int32) (q1 : Nat) (g : Nat → Int32) (a : Int32) (f0 : h q = some (.inr (0, [.ref qm, .ref qi, .ref qr, .ref qd, .long t, .int bg]))) (f1 : h qm = some (.inr (1, [.ref q1]))) (f2 : h q1 = some (.inl (E.1 0, 4000, .inl g)))  : ur_Mi l yU_word wsU_word rmkU_word D vwCl (ur_v E) [.ref q, .int a] h (fun r h2 => r = um_at g a ∧ h2 = h) 0 0 := by
  intro sz
  refine ur_of (cc := cU_word) (maxL := 2) (ret := (some .int)) (by decide) rfl (Nat.le_of_ble_eq_true rfl) ?_
  intro p e s m args below meth c ls Q hsz hx hb hml hr hlocks hnm hown hts hO hK hI hQ hl
  subst hsz
  have hV := hK.1
  have hts : ∀ w ∈ ur_G, w.before args s = true := fun w hw => hts w (List.mem_cons_of_mem _ hw)
  have hZ : ur_Z E (ur_A h s.heap.size) s s.heap := hO.1
  have hown : s.vm.findClass "UnitRoom" = some m.cls := hown
  have hl : lv_has ls 2 [(0, .ref q), (1, .int a)] := hl
  refine lv_aload_n hx hb dU_word_0 rfl (lv_at hl 0 rfl) ?_
  refine va_get (D := D) (ci := 0) (v := .ref qm) (C := "UnitRoom") (T := TU) (N := 6) hx hb hts inU hown hV (ur_one hI.1 f0) 0 rfl rfl 0 (by decide) (hts _ mw170) (fun _ h9 => h9) rfl dU_word_1 ?_
  refine lv_iload_n hx hb dU_word_4 rfl (lv_at hl 1 rfl) ?_
  refine ur_xi (va_runV (As := [.int a]) (rest := []) ⟨hx, hb, hml, hown, hts⟩ (kM_at l D E h qm q1 g a f1 f2 s.heap.size) (cwV 1 hts (ur_gV mw234 mw235 mw236 mw2 mw237) rfl rfl rfl (by decide +kernel) ⟨(Nat.le_of_ble_eq_true rfl), (Nat.le_of_ble_eq_true rfl)⟩) ⟨ur_blind, va_recv hV (ur_one hI.1 f1) (ci := 1) (q0 := 0) rfl rfl, ur_pre hI hO hK (fun _ _ q => q)⟩ rfl rfl hl.1 rfl (lv_room (Nat.le_of_ble_eq_true rfl)) dU_word_5 ⟨Nat.le_of_ble_eq_true rfl, Nat.le_of_ble_eq_true rfl⟩) hI (fun r1 h1 H locs p1 hI => ?_)
  obtain ⟨er1, eh1⟩ := p1
  replace eh1 := eh1.symm; subst eh1
  replace er1 := er1.symm; subst er1
  exact ur_ri hx hb hr hlocks hI hQ ⟨(by first | (simp only [↓reduceIte]; done) | (simp only [↓reduceIte]; rfl) | rfl), rfl⟩ dU_word_8
theorem dU_card_0 : decode cU_card 0 = .ok (.aload_n 0, 1) := by decide +kernel
theorem dU_card_1 : decode cU_card 1 = .ok (.getfield 26, 3) := by decide +kernel
theorem dU_card_4 : decode cU_card 4 = .ok (.invokevirtual 118, 3) := by decide +kernel
theorem dU_card_7 : decode cU_card 7 = .ok (.istore_n 1, 1) := by decide +kernel
theorem dU_card_8 : decode cU_card 8 = .ok (.iload_n 1, 1) := by decide +kernel
theorem dU_card_9 : decode cU_card 9 = .ok (.ifCond .eq 14, 3) := by decide +kernel
theorem dU_card_12 : decode cU_card 12 = .ok (.aload_n 0, 1) := by decide +kernel
theorem dU_card_13 : decode cU_card 13 = .ok (.getfield 26, 3) := by decide +kernel
theorem dU_card_16 : decode cU_card 16 = .ok (.aload_n 0, 1) := by decide +kernel
theorem dU_card_17 : decode cU_card 17 = .ok (.getfield 19, 3) := by decide +kernel
theorem dU_card_20 : decode cU_card 20 = .ok (.invokevirtual 119, 3) := by decide +kernel
theorem dU_card_23 : decode cU_card 23 = .ok (.aload_n 0, 1) := by decide +kernel
theorem dU_card_24 : decode cU_card 24 = .ok (.getfield 19, 3) := by decide +kernel
theorem dU_card_27 : decode cU_card 27 = .ok (.iconst 0, 1) := by decide +kernel
theorem dU_card_28 : decode cU_card 28 = .ok (.invokevirtual 63, 3) := by decide +kernel
theorem dU_card_31 : decode cU_card 31 = .ok (.pop, 1) := by decide +kernel
theorem dU_card_32 : decode cU_card 32 = .ok (.iload_n 1, 1) := by decide +kernel
theorem dU_card_33 : decode cU_card 33 = .ok (.ifCond .eq 13, 3) := by decide +kernel
theorem dU_card_36 : decode cU_card 36 = .ok (.aload_n 0, 1) := by decide +kernel
theorem dU_card_37 : decode cU_card 37 = .ok (.getfield 26, 3) := by decide +kernel
theorem dU_card_40 : decode cU_card 40 = .ok (.invokevirtual 123, 3) := by decide +kernel
theorem dU_card_43 : decode cU_card 43 = .ok (.goto 4, 3) := by decide +kernel
theorem dU_card_46 : decode cU_card 46 = .ok (.iconst (-1), 1) := by decide +kernel
theorem dU_card_47 : decode cU_card 47 = .ok (.ireturn, 1) := by decide +kernel
abbrev rmkU_card : Room := { frames := 8, cells := 0, slots := 0, locals := 179 }
set_option maxHeartbeats 4000000 in
set_option maxRecDepth 100000 in
theorem kU_card (l : Launch) (D : va_G) (E : ur_Ev) (h : ur_M) (q : Nat) (qm : Nat) (qi : Nat) (qd : Nat) (t : Int64) (bg : Int32) (qr : Nat) (qb : Nat) (qc : Nat) (a : Nat) (b : Nat) (q3 : Nat) (n : Nat) (du : Int32) (br : Int32) (tu : Int32) (ta : Int32) (fa : Int64) (cs : Nat → Int32) (bs : Nat → Int32) (f0 : h q = some (.inr (0, [.ref qm, .ref qi, .ref qr, .ref qd, .long t, .int bg]))) (f1 : h qr = some (.inr (5, [.int 16, .ref qb, .int du, .long fa, .int br, .int tu, .int ta, .ref qc, .int (nI a), .int (nI b)]))) (f2 : h qc = some (.inl (E.1 0, 1600, .inl cs))) (f3 : h qi = some (.inr (2, [.ref q3, .int (nI n)]))) (f4 : h q3 = some (.inl (E.1 1, 400, .inl bs))) (ha1 : a < 100) (hb1 : b < 100) (hn : n ≤ 400) : ur_Mi l yU_card wsU_card rmkU_card D vwCl (ur_v E) [.ref q] h (fun r h2 => r = nI (b + 1) ∧ h2 = va_up (va_up (va_up h qc (some (.inl (E.1 0, 1600, .inl (um_acc cs bs n ((a + b) % 100 * 16) 16))))) qr (some (.inr (5, [.int 16, .ref qb, .int du, .long fa, .int br, .int tu, .int ta, .ref qc, .int (nI a), .int (nI (b + 1))])))) qi (some (.inr (2, [.ref q3, .int (um_cutn (nI n) 0)])))) 0 0 := by
  intro sz
  refine ur_of (cc := cU_card) (maxL := 2) (ret := (some .int)) (by decide) rfl (Nat.le_of_ble_eq_true rfl) ?_
  intro p e s m args below meth c ls Q hsz hx hb hml hr hlocks hnm hown hts hO hK hI hQ hl
  subst hsz
  have hV := hK.1
  have hts : ∀ w ∈ ur_G, w.before args s = true := fun w hw => hts w (List.mem_cons_of_mem _ hw)
  have hZ : ur_Z E (ur_A h s.heap.size) s s.heap := hO.1
  have hown : s.vm.findClass "UnitRoom" = some m.cls := hown
  have hl : lv_has ls 2 [(0, .ref q)] := hl
  refine lv_aload_n hx hb dU_card_0 rfl (lv_at hl 0 rfl) ?_
  refine va_get (D := D) (ci := 0) (v := .ref qr) (C := "UnitRoom") (T := TU) (N := 6) hx hb hts inU hown hV (ur_one hI.1 f0) 0 rfl rfl 2 (by decide) (hts _ mw172) (fun _ h9 => h9) rfl dU_card_1 ?_
  refine ur_xi (va_runV (As := []) (rest := []) ⟨hx, hb, hml, hown, hts⟩ (kR_hasRoom l D E h qr qb qc a b du br tu ta fa f1 s.heap.size) (cwV 0 hts (ur_gV mw460 mw461 mw462 mw5 mw463) rfl rfl rfl (by decide +kernel) ⟨(Nat.le_of_ble_eq_true rfl), (Nat.le_of_ble_eq_true rfl)⟩) ⟨ur_blind, va_recv hV (ur_one hI.1 f1) (ci := 5) (q0 := 0) rfl rfl, ur_pre hI hO hK (fun _ _ q => q)⟩ rfl rfl hl.1 rfl (lv_room (Nat.le_of_ble_eq_true rfl)) dU_card_4 ⟨Nat.le_of_ble_eq_true rfl, Nat.le_of_ble_eq_true rfl⟩) hI (fun r1 h1 H locs p1 hI => ?_)
  obtain ⟨er1, eh1⟩ := p1
  replace eh1 := eh1.symm; subst eh1
  refine lv_istore_n (lv' := [(1, .int r1), (0, .ref q)]) hx hb dU_card_7 rfl hl (by decide) rfl (fun ls hl => ?_)
  refine lv_iload_n hx hb dU_card_8 rfl (lv_at hl 0 rfl) ?_
  refine lv_if_eq (tgt := 23) hx hb dU_card_9 (by decide) (fun c2 => absurd c2 (by rw [er1, um_hasR_t hb1]; decide)) (fun c2 => ?_)
  refine lv_aload_n hx hb dU_card_12 rfl (lv_at hl 1 rfl) ?_
  refine va_get (D := D) (ci := 0) (v := .ref qr) (C := "UnitRoom") (T := TU) (N := 6) hx hb hts inU hown hV (ur_one hI.1 f0) 0 rfl rfl 2 (by decide) (hts _ mw172) (fun _ h9 => h9) rfl dU_card_13 ?_
  refine lv_aload_n hx hb dU_card_16 rfl (lv_at hl 1 rfl) ?_
  refine va_get (D := D) (ci := 0) (v := .ref qi) (C := "UnitRoom") (T := TU) (N := 6) hx hb hts inU hown hV (ur_one hI.1 f0) 0 rfl rfl 1 (by decide) (hts _ mw171) (fun _ h9 => h9) rfl dU_card_17 ?_
  refine ur_xv (va_runV (As := [.ref qi]) (rest := []) ⟨hx, hb, hml, hown, hts⟩ (kR_accept l D E h qr qb qc a b du br tu ta fa qi q3 n cs bs f1 f2 f3 f4 (by first | assumption | omega | decide) (by first | assumption | omega | decide) (by first | assumption | omega | decide) H.size) (cwV 1 hts (ur_gV mw464 mw465 mw466 mw5 mw467) rfl rfl rfl (by decide +kernel) ⟨(Nat.le_of_ble_eq_true rfl), (Nat.le_of_ble_eq_true rfl)⟩) ⟨ur_blind, va_recv hV (ur_one hI.1 f1) (ci := 5) (q0 := 0) rfl rfl, ur_pre hI hO hK (fun _ _ q => q)⟩ rfl rfl hl.1 rfl (lv_room (Nat.le_of_ble_eq_true rfl)) dU_card_20 ⟨Nat.le_of_ble_eq_true rfl, Nat.le_of_ble_eq_true rfl⟩) hI (fun h3 H locs p3 hI => ?_)
  have eh3 := p3
  have fq4 : h3 q = some (.inr (0, [.ref qm, .ref qi, .ref qr, .ref qd, .long t, .int bg])) := by rw [eh3]; exact ((va_up_ne _ _ (ur_ne f0 f1 (by intro z; simp at z))).trans ((va_up_ne _ _ (ur_ne f0 f2 (by intro z; simp at z))).trans f0))
  have fq5 : h3 qr = some (.inr (5, [.int 16, .ref qb, .int du, .long fa, .int br, .int tu, .int ta, .ref qc, .int (nI a), .int (nI (b + 1))])) := by rw [eh3]; exact (va_up_self _ _ _)
  have fq6 : h3 qc = some (.inl (E.1 0, 1600, .inl (um_acc cs bs n ((a + b) % 100 * 16) 16))) := by rw [eh3]; exact ((va_up_ne _ _ (ur_ne f2 f1 (by intro z; simp at z))).trans (va_up_self _ _ _))
  have fq7 : h3 qi = some (.inr (2, [.ref q3, .int (nI n)])) := by rw [eh3]; exact ((va_up_ne _ _ (ur_ne f3 f1 (by intro z; simp at z))).trans ((va_up_ne _ _ (ur_ne f3 f2 (by intro z; simp at z))).trans f3))
  have fq8 : h3 q3 = some (.inl (E.1 1, 400, .inl bs)) := by rw [eh3]; exact ((va_up_ne _ _ (ur_ne f4 f1 (by intro z; simp at z))).trans ((va_up_ne _ _ (ur_ne f4 f2 (by intro z; simp at z))).trans f4))
  refine lv_aload_n hx hb dU_card_23 rfl (lv_at hl 1 rfl) ?_
  refine va_get (D := D) (ci := 0) (v := .ref qi) (C := "UnitRoom") (T := TU) (N := 6) hx hb hts inU hown hV (ur_one hI.1 fq4) 0 rfl rfl 1 (by decide) (hts _ mw171) (fun _ h9 => h9) rfl dU_card_24 ?_
  refine lv_iconst (v := 0) hx hb dU_card_27 (by decide) ?_
  refine ur_xi (va_runV (As := [.int 0]) (rest := []) ⟨hx, hb, hml, hown, hts⟩ (kN_cut l D E h3 qi q3 (nI n) 0 fq7 H.size) (cwV 1 hts (ur_gV mw205 mw206 mw207 mw3 mw208) rfl rfl rfl (by decide +kernel) ⟨(Nat.le_of_ble_eq_true rfl), (Nat.le_of_ble_eq_true rfl)⟩) ⟨ur_blind, va_recv hV (ur_one hI.1 fq7) (ci := 2) (q0 := 0) rfl rfl, ur_pre hI hO hK (fun _ _ q => q)⟩ rfl rfl hl.1 rfl (lv_room (Nat.le_of_ble_eq_true rfl)) dU_card_28 ⟨Nat.le_of_ble_eq_true rfl, Nat.le_of_ble_eq_true rfl⟩) hI (fun r9 h9 H locs p9 hI => ?_)
  obtain ⟨er9, eh9⟩ := p9
  have fq10 : h9 q = some (.inr (0, [.ref qm, .ref qi, .ref qr, .ref qd, .long t, .int bg])) := by rw [eh9]; exact ((va_up_ne _ _ (ur_ne fq4 fq7 (by intro z; simp at z))).trans fq4)
  have fq11 : h9 qr = some (.inr (5, [.int 16, .ref qb, .int du, .long fa, .int br, .int tu, .int ta, .ref qc, .int (nI a), .int (nI (b + 1))])) := by rw [eh9]; exact ((va_up_ne _ _ (ur_ne fq5 fq7 (by intro z; simp at z))).trans fq5)
  have fq12 : h9 qc = some (.inl (E.1 0, 1600, .inl (um_acc cs bs n ((a + b) % 100 * 16) 16))) := by rw [eh9]; exact ((va_up_ne _ _ (ur_ne fq6 fq7 (by intro z; simp at z))).trans fq6)
  have fq13 : h9 qi = some (.inr (2, [.ref q3, .int (um_cutn (nI n) 0)])) := by rw [eh9]; exact (va_up_self _ _ _)
  have fq14 : h9 q3 = some (.inl (E.1 1, 400, .inl bs)) := by rw [eh9]; exact ((va_up_ne _ _ (ur_ne fq8 fq7 (by intro z; simp at z))).trans fq8)
  refine lv_pop hx hb dU_card_31 rfl ?_
  refine lv_iload_n hx hb dU_card_32 rfl (lv_at hl 0 rfl) ?_
  refine lv_if_eq (tgt := 46) hx hb dU_card_33 (by decide) (fun c15 => absurd c15 (by rw [er1, um_hasR_t hb1]; decide)) (fun c15 => ?_)
  refine lv_aload_n hx hb dU_card_36 rfl (lv_at hl 1 rfl) ?_
  refine va_get (D := D) (ci := 0) (v := .ref qr) (C := "UnitRoom") (T := TU) (N := 6) hx hb hts inU hown hV (ur_one hI.1 fq10) 0 rfl rfl 2 (by decide) (hts _ mw172) (fun _ h9 => h9) rfl dU_card_37 ?_
  refine ur_xi (va_runV (As := []) (rest := []) ⟨hx, hb, hml, hown, hts⟩ (kR_tell l D E h9 qr qb qc a (b + 1) du br tu ta fa fq11 H.size) (cwV 0 hts (ur_gV mw533 mw534 mw535 mw5 mw536) rfl rfl rfl (by decide +kernel) ⟨(Nat.le_of_ble_eq_true rfl), (Nat.le_of_ble_eq_true rfl)⟩) ⟨ur_blind, va_recv hV (ur_one hI.1 fq11) (ci := 5) (q0 := 0) rfl rfl, ur_pre hI hO hK (fun _ _ q => q)⟩ rfl rfl hl.1 rfl (lv_room (Nat.le_of_ble_eq_true rfl)) dU_card_40 ⟨Nat.le_of_ble_eq_true rfl, Nat.le_of_ble_eq_true rfl⟩) hI (fun r16 h16 H locs p16 hI => ?_)
  obtain ⟨er16, eh16⟩ := p16
  replace eh16 := eh16.symm; subst eh16
  replace er16 := er16.symm; subst er16
  refine lv_goto (tgt := 47) hx hb dU_card_43 (by decide) ?_
  exact ur_ri hx hb hr hlocks hI hQ ⟨rfl, (by rw [eh9, eh3])⟩ dU_card_47
abbrev rmkU_cardF : Room := { frames := 1, cells := 0, slots := 0, locals := 21 }
set_option maxHeartbeats 4000000 in
set_option maxRecDepth 100000 in
theorem kU_cardF (l : Launch) (D : va_G) (E : ur_Ev) (h : ur_M) (q : Nat) (qm : Nat) (qi : Nat) (qd : Nat) (t : Int64) (bg : Int32) (qr : Nat) (qb : Nat) (qc : Nat) (a : Nat) (b : Nat) (q3 : Nat) (n : Nat) (du : Int32) (br : Int32) (tu : Int32) (ta : Int32) (fa : Int64) (cs : Nat → Int32) (bs : Nat → Int32) (f0 : h q = some (.inr (0, [.ref qm, .ref qi, .ref qr, .ref qd, .long t, .int bg]))) (f1 : h qr = some (.inr (5, [.int 16, .ref qb, .int du, .long fa, .int br, .int tu, .int ta, .ref qc, .int (nI a), .int (nI b)]))) (f2 : h qc = some (.inl (E.1 0, 1600, .inl cs))) (f3 : h qi = some (.inr (2, [.ref q3, .int (nI n)]))) (f4 : h q3 = some (.inl (E.1 1, 400, .inl bs))) (hb1 : b = 100) (hn : n ≤ 400) : ur_Mi l yU_card wsU_card rmkU_cardF D vwCl (ur_v E) [.ref q] h (fun r h2 => r = (-1) ∧ h2 = va_up h qi (some (.inr (2, [.ref q3, .int (um_cutn (nI n) 0)])))) 0 0 := by
  intro sz
  refine ur_of (cc := cU_card) (maxL := 2) (ret := (some .int)) (by decide) rfl (Nat.le_of_ble_eq_true rfl) ?_
  intro p e s m args below meth c ls Q hsz hx hb hml hr hlocks hnm hown hts hO hK hI hQ hl
  subst hsz
  have hV := hK.1
  have hts : ∀ w ∈ ur_G, w.before args s = true := fun w hw => hts w (List.mem_cons_of_mem _ hw)
  have hZ : ur_Z E (ur_A h s.heap.size) s s.heap := hO.1
  have hown : s.vm.findClass "UnitRoom" = some m.cls := hown
  have hl : lv_has ls 2 [(0, .ref q)] := hl
  refine lv_aload_n hx hb dU_card_0 rfl (lv_at hl 0 rfl) ?_
  refine va_get (D := D) (ci := 0) (v := .ref qr) (C := "UnitRoom") (T := TU) (N := 6) hx hb hts inU hown hV (ur_one hI.1 f0) 0 rfl rfl 2 (by decide) (hts _ mw172) (fun _ h9 => h9) rfl dU_card_1 ?_
  refine ur_xi (va_runV (As := []) (rest := []) ⟨hx, hb, hml, hown, hts⟩ (kR_hasRoom l D E h qr qb qc a b du br tu ta fa f1 s.heap.size) (cwV 0 hts (ur_gV mw460 mw461 mw462 mw5 mw463) rfl rfl rfl (by decide +kernel) ⟨(Nat.le_of_ble_eq_true rfl), (Nat.le_of_ble_eq_true rfl)⟩) ⟨ur_blind, va_recv hV (ur_one hI.1 f1) (ci := 5) (q0 := 0) rfl rfl, ur_pre hI hO hK (fun _ _ q => q)⟩ rfl rfl hl.1 rfl (lv_room (Nat.le_of_ble_eq_true rfl)) dU_card_4 ⟨Nat.le_of_ble_eq_true rfl, Nat.le_of_ble_eq_true rfl⟩) hI (fun r1 h1 H locs p1 hI => ?_)
  obtain ⟨er1, eh1⟩ := p1
  replace eh1 := eh1.symm; subst eh1
  refine lv_istore_n (lv' := [(1, .int r1), (0, .ref q)]) hx hb dU_card_7 rfl hl (by decide) rfl (fun ls hl => ?_)
  refine lv_iload_n hx hb dU_card_8 rfl (lv_at hl 0 rfl) ?_
  refine lv_if_eq (tgt := 23) hx hb dU_card_9 (by decide) (fun c2 => ?_) (fun c2 => absurd c2 (by rw [er1, hb1, um_hasR_f]; decide))
  refine lv_aload_n hx hb dU_card_23 rfl (lv_at hl 1 rfl) ?_
  refine va_get (D := D) (ci := 0) (v := .ref qi) (C := "UnitRoom") (T := TU) (N := 6) hx hb hts inU hown hV (ur_one hI.1 f0) 0 rfl rfl 1 (by decide) (hts _ mw171) (fun _ h9 => h9) rfl dU_card_24 ?_
  refine lv_iconst (v := 0) hx hb dU_card_27 (by decide) ?_
  refine ur_xi (va_runV (As := [.int 0]) (rest := []) ⟨hx, hb, hml, hown, hts⟩ (kN_cut l D E h qi q3 (nI n) 0 f3 H.size) (cwV 1 hts (ur_gV mw205 mw206 mw207 mw3 mw208) rfl rfl rfl (by decide +kernel) ⟨(Nat.le_of_ble_eq_true rfl), (Nat.le_of_ble_eq_true rfl)⟩) ⟨ur_blind, va_recv hV (ur_one hI.1 f3) (ci := 2) (q0 := 0) rfl rfl, ur_pre hI hO hK (fun _ _ q => q)⟩ rfl rfl hl.1 rfl (lv_room (Nat.le_of_ble_eq_true rfl)) dU_card_28 ⟨Nat.le_of_ble_eq_true rfl, Nat.le_of_ble_eq_true rfl⟩) hI (fun r3 h3 H locs p3 hI => ?_)
  obtain ⟨er3, eh3⟩ := p3
  have fq4 : h3 q = some (.inr (0, [.ref qm, .ref qi, .ref qr, .ref qd, .long t, .int bg])) := by rw [eh3]; exact ((va_up_ne _ _ (ur_ne f0 f3 (by intro z; simp at z))).trans f0)
  have fq5 : h3 qr = some (.inr (5, [.int 16, .ref qb, .int du, .long fa, .int br, .int tu, .int ta, .ref qc, .int (nI a), .int (nI b)])) := by rw [eh3]; exact ((va_up_ne _ _ (ur_ne f1 f3 (by intro z; simp at z))).trans f1)
  have fq6 : h3 qc = some (.inl (E.1 0, 1600, .inl cs)) := by rw [eh3]; exact ((va_up_ne _ _ (ur_ne f2 f3 (by intro z; simp at z))).trans f2)
  have fq7 : h3 qi = some (.inr (2, [.ref q3, .int (um_cutn (nI n) 0)])) := by rw [eh3]; exact (va_up_self _ _ _)
  have fq8 : h3 q3 = some (.inl (E.1 1, 400, .inl bs)) := by rw [eh3]; exact ((va_up_ne _ _ (ur_ne f4 f3 (by intro z; simp at z))).trans f4)
  refine lv_pop hx hb dU_card_31 rfl ?_
  refine lv_iload_n hx hb dU_card_32 rfl (lv_at hl 0 rfl) ?_
  refine lv_if_eq (tgt := 46) hx hb dU_card_33 (by decide) (fun c9 => ?_) (fun c9 => absurd c9 (by rw [er1, hb1, um_hasR_f]; decide))
  refine lv_iconst (v := (-1)) hx hb dU_card_46 (by decide) ?_
  exact ur_ri hx hb hr hlocks hI hQ ⟨rfl, (by rw [eh3])⟩ dU_card_47
