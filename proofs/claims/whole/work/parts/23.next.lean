def um_dvo (f : Nat → Option Nat) (u : Int32) : Option Nat := if u < 0 then none else if u < 20 then f u.toNatClampNeg else none
theorem dU_deviceOf_0 : decode cU_deviceOf 0 = .ok (.iload_n 1, 1) := by decide +kernel
theorem dU_deviceOf_1 : decode cU_deviceOf 1 = .ok (.ifCond .lt 12, 3) := by decide +kernel
theorem dU_deviceOf_4 : decode cU_deviceOf 4 = .ok (.iload_n 1, 1) := by decide +kernel
theorem dU_deviceOf_5 : decode cU_deviceOf 5 = .ok (.aload_n 0, 1) := by decide +kernel
theorem dU_deviceOf_6 : decode cU_deviceOf 6 = .ok (.getfield 32, 3) := by decide +kernel
theorem dU_deviceOf_9 : decode cU_deviceOf 9 = .ok (.arraylength, 1) := by decide +kernel
theorem dU_deviceOf_10 : decode cU_deviceOf 10 = .ok (.if_icmp .lt 7, 3) := by decide +kernel
theorem dU_deviceOf_13 : decode cU_deviceOf 13 = .ok (.aconst_null, 1) := by decide +kernel
theorem dU_deviceOf_14 : decode cU_deviceOf 14 = .ok (.goto 9, 3) := by decide +kernel
theorem dU_deviceOf_17 : decode cU_deviceOf 17 = .ok (.aload_n 0, 1) := by decide +kernel
theorem dU_deviceOf_18 : decode cU_deviceOf 18 = .ok (.getfield 32, 3) := by decide +kernel
theorem dU_deviceOf_21 : decode cU_deviceOf 21 = .ok (.iload_n 1, 1) := by decide +kernel
theorem dU_deviceOf_22 : decode cU_deviceOf 22 = .ok (.aaload, 1) := by decide +kernel
theorem dU_deviceOf_23 : decode cU_deviceOf 23 = .ok (.areturn, 1) := by decide +kernel
abbrev rmkU_dev : Room := { frames := 0, cells := 0, slots := 0, locals := 0 }
set_option maxHeartbeats 4000000 in
set_option maxRecDepth 100000 in
theorem kU_dev (l : Launch) (D : va_G) (E : ur_Ev) (h : ur_M) (q : Nat) (qm : Nat) (qi : Nat) (qr : Nat) (qd : Nat) (t : Int64) (bg : Int32) (f : Nat → Option Nat) (u : Int32) (f0 : h q = some (.inr (0, [.ref qm, .ref qi, .ref qr, .ref qd, .long t, .int bg]))) (f1 : h qd = some (.inl (E.1 2, 20, .inr (.inr (.inr (.inr f))))))  : ur_Mq l yU_deviceOf wsU_deviceOf rmkU_dev D vwCl (ur_v E) [.ref q, .int u] h (fun r h2 => r = um_dvo f u ∧ h2 = h) 0 0 := by
  intro sz
  refine ur_of (cc := cU_deviceOf) (maxL := 2) (ret := (some (.object "UnitRoom$Device"))) (by decide) rfl (Nat.le_of_ble_eq_true rfl) ?_
  intro p e s m args below meth c ls Q hsz hx hb hml hr hlocks hnm hown hts hO hK hI hQ hl
  subst hsz
  have hV := hK.1
  have hts : ∀ w ∈ ur_G, w.before args s = true := fun w hw => hts w (List.mem_cons_of_mem _ hw)
  have hZ : ur_Z E (ur_A h s.heap.size) s s.heap := hO.1
  have hown : s.vm.findClass "UnitRoom" = some m.cls := hown
  have hl : lv_has ls 2 [(0, .ref q), (1, .int u)] := hl
  refine lv_iload_n hx hb dU_deviceOf_0 rfl (lv_at hl 1 rfl) ?_
  refine lv_if_lt (tgt := 13) hx hb dU_deviceOf_1 (by decide) (fun c1 => ?_) (fun c1 => ?_)
  · refine lv_null hx hb dU_deviceOf_13 ?_
    refine lv_goto (tgt := 23) hx hb dU_deviceOf_14 (by decide) ?_
    exact ur_rq (v := none) hx hb hr hlocks hI hQ (Or.inl ⟨_, rfl⟩) ⟨(by first | (simp only [um_dvo, c1, ↓reduceIte]; done) | (simp only [um_dvo, c1, ↓reduceIte]; rfl) | rfl), rfl⟩ dU_deviceOf_23
  · refine lv_iload_n hx hb dU_deviceOf_4 rfl (lv_at hl 1 rfl) ?_
    refine lv_aload_n hx hb dU_deviceOf_5 rfl (lv_at hl 0 rfl) ?_
    refine va_get (D := D) (ci := 0) (v := .ref qd) (C := "UnitRoom") (T := TU) (N := 6) hx hb hts inU hown hV (ur_one hI.1 f0) 0 rfl rfl 3 (by decide) (hts _ mw173) (fun _ h9 => h9) rfl dU_deviceOf_6 ?_
    refine va_alen (v := 20) hx hb hV (ur_one hI.1 f1) 0 2 rfl rfl rfl dU_deviceOf_9 ?_
    refine lv_icmp_lt (tgt := 17) hx hb dU_deviceOf_10 (by decide) (fun c2 => ?_) (fun c2 => ?_)
    · refine lv_aload_n hx hb dU_deviceOf_17 rfl (lv_at hl 0 rfl) ?_
      refine va_get (D := D) (ci := 0) (v := .ref qd) (C := "UnitRoom") (T := TU) (N := 6) hx hb hts inU hown hV (ur_one hI.1 f0) 0 rfl rfl 3 (by decide) (hts _ mw173) (fun _ h9 => h9) rfl dU_deviceOf_18 ?_
      refine lv_iload_n hx hb dU_deviceOf_21 rfl (lv_at hl 1 rfl) ?_
      refine va_aldq hx hb hV (ur_one hI.1 f1) 0 2 rfl rfl (um_in c1 c2 (by decide)) dU_deviceOf_22 ?_
      exact ur_rq (v := (f u.toNatClampNeg)) hx hb hr hlocks hI hQ (Or.inl ⟨_, rfl⟩) ⟨(by first | (simp only [um_dvo, c1, c2, ↓reduceIte]; done) | (simp only [um_dvo, c1, c2, ↓reduceIte]; rfl) | rfl), rfl⟩ dU_deviceOf_23
    · refine lv_null hx hb dU_deviceOf_13 ?_
      refine lv_goto (tgt := 23) hx hb dU_deviceOf_14 (by decide) ?_
      exact ur_rq (v := none) hx hb hr hlocks hI hQ (Or.inl ⟨_, rfl⟩) ⟨(by first | (simp only [um_dvo, c1, c2, ↓reduceIte]; done) | (simp only [um_dvo, c1, c2, ↓reduceIte]; rfl) | rfl), rfl⟩ dU_deviceOf_23
theorem cu_ahead {R : Room} {s : State} {args : Array Value} {ci : Nat} (hts : ∀ w ∈ ur_G, w.before args s = true) (hci : um_isD ci) (hR : rmkD_ahead.frames + 1 ≤ R.frames ∧ 8 + (2 + 11) + rmkD_ahead.locals ≤ R.locals) : ∃ q : vw_C, vwCl[ci]? = some q ∧ va_CU R s args "UnitRoom" q.1 "UnitRoom$Device" 155 ⟨"UnitRoom$Device", "isDoneAheadOf", "(LUnitRoom$Device;)Z"⟩ yD_isDoneAheadOf cD_isDoneAheadOf 2 (some .boolean) wsD_isDoneAheadOf rmkD_ahead 0 0 1 := by
  rcases hci with rfl | rfl | rfl | rfl
  · exact ⟨_, rfl, va_cwU (owner := "UnitRoom$Device") 1 hts (ur_gU mw277 mw279 mw282 mw278 mw4 mw284) rfl rfl rfl rfl (by decide +kernel) hR⟩
  · exact ⟨_, rfl, va_cwU (owner := "UnitRoom$Device") 1 hts (ur_gU mw277 mw279 mw280 mw278 mw4 mw284) rfl rfl rfl rfl (by decide +kernel) hR⟩
  · exact ⟨_, rfl, va_cwU (owner := "UnitRoom$Device") 1 hts (ur_gU mw277 mw279 mw281 mw278 mw4 mw284) rfl rfl rfl rfl (by decide +kernel) hR⟩
  · exact ⟨_, rfl, va_cwU (owner := "UnitRoom$Device") 1 hts (ur_gU mw277 mw279 mw283 mw278 mw4 mw284) rfl rfl rfl rfl (by decide +kernel) hR⟩
theorem cu_deliver {R : Room} {s : State} {args : Array Value} {ci : Nat} (hts : ∀ w ∈ ur_G, w.before args s = true) (hci : um_isD ci) (hR : rmkD_deliver.frames + 1 ≤ R.frames ∧ 8 + (2 + 11) + rmkD_deliver.locals ≤ R.locals) : ∃ q : vw_C, vwCl[ci]? = some q ∧ va_CU R s args "UnitRoom" q.1 "UnitRoom$Device" 147 ⟨"UnitRoom$Device", "deliver", "(LUnitRoom$Memory;)V"⟩ yD_deliver cD_deliver 2 none wsD_deliver rmkD_deliver 0 0 1 := by
  rcases hci with rfl | rfl | rfl | rfl
  · exact ⟨_, rfl, va_cwU (owner := "UnitRoom$Device") 1 hts (ur_gU mw285 mw287 mw290 mw286 mw4 mw292) rfl rfl rfl rfl (by decide +kernel) hR⟩
  · exact ⟨_, rfl, va_cwU (owner := "UnitRoom$Device") 1 hts (ur_gU mw285 mw287 mw288 mw286 mw4 mw292) rfl rfl rfl rfl (by decide +kernel) hR⟩
  · exact ⟨_, rfl, va_cwU (owner := "UnitRoom$Device") 1 hts (ur_gU mw285 mw287 mw289 mw286 mw4 mw292) rfl rfl rfl rfl (by decide +kernel) hR⟩
  · exact ⟨_, rfl, va_cwU (owner := "UnitRoom$Device") 1 hts (ur_gU mw285 mw287 mw291 mw286 mw4 mw292) rfl rfl rfl rfl (by decide +kernel) hR⟩
theorem cu_begin {R : Room} {s : State} {args : Array Value} {ci : Nat} (hts : ∀ w ∈ ur_G, w.before args s = true) (hci : um_isD ci) (hR : rmkD_begin.frames + 1 ≤ R.frames ∧ 8 + (4 + 11) + rmkD_begin.locals ≤ R.locals) : ∃ q : vw_C, vwCl[ci]? = some q ∧ va_CU R s args "UnitRoom" q.1 "UnitRoom$Device" 104 ⟨"UnitRoom$Device", "begin", "(JI)V"⟩ yD_begin cD_begin 4 none wsD_begin rmkD_begin 0 0 2 := by
  rcases hci with rfl | rfl | rfl | rfl
  · exact ⟨_, rfl, va_cwU (owner := "UnitRoom$Device") 2 hts (ur_gU mw300 mw302 mw305 mw301 mw4 mw307) rfl rfl rfl rfl (by decide +kernel) hR⟩
  · exact ⟨_, rfl, va_cwU (owner := "UnitRoom$Device") 2 hts (ur_gU mw300 mw302 mw303 mw301 mw4 mw307) rfl rfl rfl rfl (by decide +kernel) hR⟩
  · exact ⟨_, rfl, va_cwU (owner := "UnitRoom$Device") 2 hts (ur_gU mw300 mw302 mw304 mw301 mw4 mw307) rfl rfl rfl rfl (by decide +kernel) hR⟩
  · exact ⟨_, rfl, va_cwU (owner := "UnitRoom$Device") 2 hts (ur_gU mw300 mw302 mw306 mw301 mw4 mw307) rfl rfl rfl rfl (by decide +kernel) hR⟩
theorem dU_nextDone_0 : decode cU_nextDone 0 = .ok (.aconst_null, 1) := by decide +kernel
theorem dU_nextDone_1 : decode cU_nextDone 1 = .ok (.astore_n 1, 1) := by decide +kernel
theorem dU_nextDone_2 : decode cU_nextDone 2 = .ok (.iconst 0, 1) := by decide +kernel
theorem dU_nextDone_3 : decode cU_nextDone 3 = .ok (.istore_n 2, 1) := by decide +kernel
theorem dU_nextDone_4 : decode cU_nextDone 4 = .ok (.iload_n 2, 1) := by decide +kernel
theorem dU_nextDone_5 : decode cU_nextDone 5 = .ok (.aload_n 0, 1) := by decide +kernel
theorem dU_nextDone_6 : decode cU_nextDone 6 = .ok (.getfield 32, 3) := by decide +kernel
theorem dU_nextDone_9 : decode cU_nextDone 9 = .ok (.arraylength, 1) := by decide +kernel
theorem dU_nextDone_10 : decode cU_nextDone 10 = .ok (.if_icmp .ge 53, 3) := by decide +kernel
theorem dU_nextDone_13 : decode cU_nextDone 13 = .ok (.aload_n 0, 1) := by decide +kernel
theorem dU_nextDone_14 : decode cU_nextDone 14 = .ok (.getfield 32, 3) := by decide +kernel
theorem dU_nextDone_17 : decode cU_nextDone 17 = .ok (.iload_n 2, 1) := by decide +kernel
theorem dU_nextDone_18 : decode cU_nextDone 18 = .ok (.aaload, 1) := by decide +kernel
theorem dU_nextDone_19 : decode cU_nextDone 19 = .ok (.astore_n 3, 1) := by decide +kernel
theorem dU_nextDone_20 : decode cU_nextDone 20 = .ok (.aload_n 3, 1) := by decide +kernel
theorem dU_nextDone_21 : decode cU_nextDone 21 = .ok (.ifnull 36, 3) := by decide +kernel
theorem dU_nextDone_24 : decode cU_nextDone 24 = .ok (.aload_n 3, 1) := by decide +kernel
theorem dU_nextDone_25 : decode cU_nextDone 25 = .ok (.getfield 151, 3) := by decide +kernel
theorem dU_nextDone_28 : decode cU_nextDone 28 = .ok (.ifCond .eq 29, 3) := by decide +kernel
theorem dU_nextDone_31 : decode cU_nextDone 31 = .ok (.aload_n 3, 1) := by decide +kernel
theorem dU_nextDone_32 : decode cU_nextDone 32 = .ok (.getfield 91, 3) := by decide +kernel
theorem dU_nextDone_35 : decode cU_nextDone 35 = .ok (.aload_n 0, 1) := by decide +kernel
theorem dU_nextDone_36 : decode cU_nextDone 36 = .ok (.getfield 47, 3) := by decide +kernel
theorem dU_nextDone_39 : decode cU_nextDone 39 = .ok (.lcmp, 1) := by decide +kernel
theorem dU_nextDone_40 : decode cU_nextDone 40 = .ok (.ifCond .gt 17, 3) := by decide +kernel
theorem dU_nextDone_43 : decode cU_nextDone 43 = .ok (.aload_n 1, 1) := by decide +kernel
theorem dU_nextDone_44 : decode cU_nextDone 44 = .ok (.ifnull 11, 3) := by decide +kernel
theorem dU_nextDone_47 : decode cU_nextDone 47 = .ok (.aload_n 3, 1) := by decide +kernel
theorem dU_nextDone_48 : decode cU_nextDone 48 = .ok (.aload_n 1, 1) := by decide +kernel
theorem dU_nextDone_49 : decode cU_nextDone 49 = .ok (.invokevirtual 155, 3) := by decide +kernel
theorem dU_nextDone_52 : decode cU_nextDone 52 = .ok (.ifCond .eq 5, 3) := by decide +kernel
theorem dU_nextDone_55 : decode cU_nextDone 55 = .ok (.aload_n 3, 1) := by decide +kernel
theorem dU_nextDone_56 : decode cU_nextDone 56 = .ok (.astore_n 1, 1) := by decide +kernel
theorem dU_nextDone_57 : decode cU_nextDone 57 = .ok (.iinc 2 1, 3) := by decide +kernel
theorem dU_nextDone_60 : decode cU_nextDone 60 = .ok (.goto (-56), 3) := by decide +kernel
theorem dU_nextDone_63 : decode cU_nextDone 63 = .ok (.aload_n 1, 1) := by decide +kernel
theorem dU_nextDone_64 : decode cU_nextDone 64 = .ok (.areturn, 1) := by decide +kernel
abbrev rmkU_next : Room := { frames := 1, cells := 0, slots := 0, locals := 21 }
set_option maxHeartbeats 4000000 in
set_option maxRecDepth 100000 in
theorem kU_next (l : Launch) (D : va_G) (E : ur_Ev) (h : ur_M) (a : um_Ad) (S : um_S)  (hR : um_R E a S h) (hB : um_Bd S) : ur_Mq l yU_nextDone wsU_nextDone rmkU_next D vwCl (ur_v E) [.ref (a.1 20 0)] h (fun r h2 => r = (um_nd S 20).map (fun v => a.1 v 0) ∧ h2 = h) 0 0 := by
  intro sz
  refine ur_of (cc := cU_nextDone) (maxL := 4) (ret := (some (.object "UnitRoom$Device"))) (by decide) rfl (Nat.le_of_ble_eq_true rfl) ?_
  intro p e s m args below meth c ls Q hsz hx hb hml hr hlocks hnm hown hts hO hK hI hQ hl
  subst hsz
  have hV := hK.1
  have hts : ∀ w ∈ ur_G, w.before args s = true := fun w hw => hts w (List.mem_cons_of_mem _ hw)
  have hZ : ur_Z E (ur_A h s.heap.size) s s.heap := hO.1
  have hown : s.vm.findClass "UnitRoom" = some m.cls := hown
  have hl : lv_has ls 4 [(0, .ref (a.1 20 0))] := hl
  have g0 : h (a.1 20 0) = some (.inr (0, [.ref (a.1 20 1), .ref (a.1 20 3), .ref (a.1 16 0), .ref (a.1 20 5), .long (lN (S.1 20 2)), .int (nI (S.1 20 0))])) := hR.core rfl
  have g5 : h (a.1 20 5) = some (.inl (E.1 2, 20, .inr (.inr (.inr (.inr (um_devs a)))))) := hR.core rfl
  refine lv_null hx hb dU_nextDone_0 ?_
  refine lv_astore_nN (lv' := [(1, .null), (0, .ref (a.1 20 0))]) hx hb dU_nextDone_1 rfl hl (by decide) rfl (fun ls hl => ?_)
  refine lv_iconst (v := 0) hx hb dU_nextDone_2 (by decide) ?_
  refine lv_istore_n (lv' := [(2, .int 0), (1, .null), (0, .ref (a.1 20 0))]) hx hb dU_nextDone_3 rfl hl (by decide) rfl (fun ls hl => ?_)
  have lpn1 : ∀ (n1 : Nat) (u : Nat) (H : Heap) (locs : List Loc) (ls : Array Slot), 20 - u < n1 → (u ≤ 20) → ur_I D vwCl (ur_A h s.heap.size) s.heap h H locs → lv_has ls 4 [(0, .ref (a.1 20 0)), (1, va_rf ((um_nd S u).map (fun v => a.1 v 0))), (2, .int (nI u))] → W p l e rmkU_next s m args below meth c H locs 0 0 Q (F0 m 4 ls []) := by
    intro n1
    induction n1 with
    | zero => intro u H locs ls hnn1; exact absurd hnn1 (Nat.not_lt_zero _)
    | succ n1 ihn1 =>
      intro u H locs ls hnn1 hu hI hl
      rcases hnx : um_nd S u with _ | v
      · rw [hnx] at hl
        refine lv_iload_n hx hb dU_nextDone_4 rfl (lv_at hl 2 rfl) ?_
        refine lv_aload_n hx hb dU_nextDone_5 rfl (lv_at hl 0 rfl) ?_
        refine va_get (D := D) (ci := 0) (v := .ref (a.1 20 5)) (C := "UnitRoom") (T := TU) (N := 6) hx hb hts inU hown hV (ur_one hI.1 g0) 0 rfl rfl 3 (by decide) (hts _ mw173) (fun _ h9 => h9) rfl dU_nextDone_6 ?_
        refine va_alen (v := 20) hx hb hV (ur_one hI.1 g5) 0 2 rfl rfl rfl dU_nextDone_9 ?_
        refine lv_icmp_ge (tgt := 63) hx hb dU_nextDone_10 (by decide) (fun c2 => ?_) (fun c2 => ?_)
        · have he9 : u = 20 := Nat.le_antisymm hu (Nat.not_lt.mp (fun z9 => nI_ge (b := 20) z9 (by decide) c2))
          refine lv_aload_nN hx hb dU_nextDone_63 rfl (lv_at hl 1 rfl) ?_
          exact ur_rq (v := none) hx hb hr hlocks hI hQ (Or.inl ⟨_, rfl⟩) ⟨(by rw [← he9, hnx]; rfl), rfl⟩ dU_nextDone_64
        · have hlt : u < 20 := Nat.not_le.mp (fun z9 => c2 (nI_le z9 (by omega)))
          refine lv_aload_n hx hb dU_nextDone_13 rfl (lv_at hl 0 rfl) ?_
          refine va_get (D := D) (ci := 0) (v := .ref (a.1 20 5)) (C := "UnitRoom") (T := TU) (N := 6) hx hb hts inU hown hV (ur_one hI.1 g0) 0 rfl rfl 3 (by decide) (hts _ mw173) (fun _ h9 => h9) rfl dU_nextDone_14 ?_
          refine lv_iload_n hx hb dU_nextDone_17 rfl (lv_at hl 2 rfl) ?_
          refine va_aldq hx hb hV (ur_one hI.1 g5) 0 2 rfl rfl (vp_in_nI hlt (by decide)) dU_nextDone_18 ?_
          rw [nI_clamp (by omega)]
          by_cases hk9 : um_kind u = 4
          · rw [um_devs_no hk9]
            refine lv_astore_nN (lv' := [(3, .null), (0, .ref (a.1 20 0)), (1, .null), (2, .int (nI u))]) hx hb dU_nextDone_19 rfl hl (by decide) rfl (fun ls hl => ?_)
            refine lv_aload_nN hx hb dU_nextDone_20 rfl (lv_at hl 0 rfl) ?_
            refine lv_ifnullN (tgt := 57) hx hb dU_nextDone_21 (by decide) ?_
            refine lv_iinc (v := ((nI u) + 1)) (lv' := [(2, .int ((nI u) + 1)), (3, .null), (0, .ref (a.1 20 0)), (1, .null)]) hx hb dU_nextDone_57 hl (k := 3) rfl rfl (by decide) rfl (fun ls hl => ?_)
            refine lv_goto (tgt := 4) hx hb dU_nextDone_60 (by decide) ?_
            rw [nI_1] at hl
            have hx9 := (um_nd_f (um_due_4 hk9)).trans hnx
            exact ihn1 (u + 1) H locs ls (by omega) hlt hI (by rw [hx9]; exact (lv_sub hl [2, 3, 0] rfl))
          · rw [um_devs_yes hk9]
            have gu : h (a.1 u 0) = some (.inr ((um_ci u), .int (nI (um_words u)) :: .ref (a.1 u 1) :: .int (nI (um_dur u)) :: .long (lN (S.1 u 4)) :: .int (nI (S.1 u 0)) :: .int (nI (S.1 u 1)) :: .int (nI (S.1 u 5)) :: um_tl a S u)) := hR.dev hk9
            refine lv_astore_n (lv' := [(3, .ref (a.1 u 0)), (0, .ref (a.1 20 0)), (1, .null), (2, .int (nI u))]) hx hb dU_nextDone_19 rfl hl (by decide) rfl (fun ls hl => ?_)
            refine lv_aload_n hx hb dU_nextDone_20 rfl (lv_at hl 0 rfl) ?_
            refine lv_ifnull hx hb dU_nextDone_21 ?_
            refine lv_aload_n hx hb dU_nextDone_24 rfl (lv_at hl 0 rfl) ?_
            refine ur_gD4 hx hb hts hown hV hI (um_ci_D u) gu (hts _ mw79) (fun _ h9 => h9) dU_nextDone_25 ?_
            refine lv_if_eq (tgt := 57) hx hb dU_nextDone_28 (by decide) (fun c3 => ?_) (fun c3 => ?_)
            · refine lv_iinc (v := ((nI u) + 1)) (lv' := [(2, .int ((nI u) + 1)), (3, .ref (a.1 u 0)), (0, .ref (a.1 20 0)), (1, .null)]) hx hb dU_nextDone_57 hl (k := 3) rfl rfl (by decide) rfl (fun ls hl => ?_)
              refine lv_goto (tgt := 4) hx hb dU_nextDone_60 (by decide) ?_
              rw [nI_1] at hl
              have hx9 := (um_nd_f (um_due_0 hB c3)).trans hnx
              exact ihn1 (u + 1) H locs ls (by omega) hlt hI (by rw [hx9]; exact (lv_sub hl [2, 3, 0] rfl))
            · refine lv_aload_n hx hb dU_nextDone_31 rfl (lv_at hl 0 rfl) ?_
              refine ur_gD3 hx hb hts hown hV hI (um_ci_D u) gu (hts _ mw77) (fun _ h9 => h9) dU_nextDone_32 ?_
              refine lv_aload_n hx hb dU_nextDone_35 rfl (lv_at hl 1 rfl) ?_
              refine va_get (D := D) (ci := 0) (v := .long (lN (S.1 20 2))) (C := "UnitRoom") (T := TU) (N := 6) hx hb hts inU hown hV (ur_one hI.1 g0) 0 rfl rfl 4 (by decide) (hts _ mw174) (fun _ h9 => h9) rfl dU_nextDone_36 ?_
              refine W.lcmp hx hb dU_nextDone_39 ?_
              refine lv_if_gt (tgt := 57) hx hb dU_nextDone_40 (by decide) (fun c4 => ?_) (fun c4 => ?_)
              · refine lv_iinc (v := ((nI u) + 1)) (lv' := [(2, .int ((nI u) + 1)), (3, .ref (a.1 u 0)), (0, .ref (a.1 20 0)), (1, .null)]) hx hb dU_nextDone_57 hl (k := 3) rfl rfl (by decide) rfl (fun ls hl => ?_)
                refine lv_goto (tgt := 4) hx hb dU_nextDone_60 (by decide) ?_
                rw [nI_1] at hl
                have hx9 := (um_nd_f (um_due_c hB c4)).trans hnx
                exact ihn1 (u + 1) H locs ls (by omega) hlt hI (by rw [hx9]; exact (lv_sub hl [2, 3, 0] rfl))
              · refine lv_aload_nN hx hb dU_nextDone_43 rfl (lv_at hl 2 rfl) ?_
                refine lv_ifnullN (tgt := 55) hx hb dU_nextDone_44 (by decide) ?_
                refine lv_aload_n hx hb dU_nextDone_55 rfl (lv_at hl 0 rfl) ?_
                refine lv_astore_n (lv' := [(1, .ref (a.1 u 0)), (3, .ref (a.1 u 0)), (0, .ref (a.1 20 0)), (2, .int (nI u))]) hx hb dU_nextDone_56 rfl hl (by decide) rfl (fun ls hl => ?_)
                refine lv_iinc (v := ((nI u) + 1)) (lv' := [(2, .int ((nI u) + 1)), (1, .ref (a.1 u 0)), (3, .ref (a.1 u 0)), (0, .ref (a.1 20 0))]) hx hb dU_nextDone_57 hl (k := 3) rfl rfl (by decide) rfl (fun ls hl => ?_)
                refine lv_goto (tgt := 4) hx hb dU_nextDone_60 (by decide) ?_
                rw [nI_1] at hl
                have hx9 := um_nd_t (um_due_t hB hk9 c3 c4) (by rw [hnx]; rfl)
                exact ihn1 (u + 1) H locs ls (by omega) hlt hI (by rw [hx9]; exact (lv_sub hl [3, 1, 0] rfl))
      · rw [hnx] at hl
        obtain ⟨hv9, hv8, -⟩ := um_nd_k hnx
        have gv : h (a.1 v 0) = some (.inr ((um_ci v), .int (nI (um_words v)) :: .ref (a.1 v 1) :: .int (nI (um_dur v)) :: .long (lN (S.1 v 4)) :: .int (nI (S.1 v 0)) :: .int (nI (S.1 v 1)) :: .int (nI (S.1 v 5)) :: um_tl a S v)) := hR.dev hv9
        refine lv_iload_n hx hb dU_nextDone_4 rfl (lv_at hl 2 rfl) ?_
        refine lv_aload_n hx hb dU_nextDone_5 rfl (lv_at hl 0 rfl) ?_
        refine va_get (D := D) (ci := 0) (v := .ref (a.1 20 5)) (C := "UnitRoom") (T := TU) (N := 6) hx hb hts inU hown hV (ur_one hI.1 g0) 0 rfl rfl 3 (by decide) (hts _ mw173) (fun _ h9 => h9) rfl dU_nextDone_6 ?_
        refine va_alen (v := 20) hx hb hV (ur_one hI.1 g5) 0 2 rfl rfl rfl dU_nextDone_9 ?_
        refine lv_icmp_ge (tgt := 63) hx hb dU_nextDone_10 (by decide) (fun c5 => ?_) (fun c5 => ?_)
        · have he9 : u = 20 := Nat.le_antisymm hu (Nat.not_lt.mp (fun z9 => nI_ge (b := 20) z9 (by decide) c5))
          refine lv_aload_n hx hb dU_nextDone_63 rfl (lv_at hl 1 rfl) ?_
          exact ur_rq (v := (some (a.1 v 0))) hx hb hr hlocks hI hQ (Or.inl ⟨_, rfl⟩) ⟨(by rw [← he9, hnx]; rfl), rfl⟩ dU_nextDone_64
        · have hlt : u < 20 := Nat.not_le.mp (fun z9 => c5 (nI_le z9 (by omega)))
          refine lv_aload_n hx hb dU_nextDone_13 rfl (lv_at hl 0 rfl) ?_
          refine va_get (D := D) (ci := 0) (v := .ref (a.1 20 5)) (C := "UnitRoom") (T := TU) (N := 6) hx hb hts inU hown hV (ur_one hI.1 g0) 0 rfl rfl 3 (by decide) (hts _ mw173) (fun _ h9 => h9) rfl dU_nextDone_14 ?_
          refine lv_iload_n hx hb dU_nextDone_17 rfl (lv_at hl 2 rfl) ?_
          refine va_aldq hx hb hV (ur_one hI.1 g5) 0 2 rfl rfl (vp_in_nI hlt (by decide)) dU_nextDone_18 ?_
          rw [nI_clamp (by omega)]
          by_cases hk9 : um_kind u = 4
          · rw [um_devs_no hk9]
            refine lv_astore_nN (lv' := [(3, .null), (0, .ref (a.1 20 0)), (1, .ref (a.1 v 0)), (2, .int (nI u))]) hx hb dU_nextDone_19 rfl hl (by decide) rfl (fun ls hl => ?_)
            refine lv_aload_nN hx hb dU_nextDone_20 rfl (lv_at hl 0 rfl) ?_
            refine lv_ifnullN (tgt := 57) hx hb dU_nextDone_21 (by decide) ?_
            refine lv_iinc (v := ((nI u) + 1)) (lv' := [(2, .int ((nI u) + 1)), (3, .null), (0, .ref (a.1 20 0)), (1, .ref (a.1 v 0))]) hx hb dU_nextDone_57 hl (k := 3) rfl rfl (by decide) rfl (fun ls hl => ?_)
            refine lv_goto (tgt := 4) hx hb dU_nextDone_60 (by decide) ?_
            rw [nI_1] at hl
            have hx9 := (um_nd_f (um_due_4 hk9)).trans hnx
            exact ihn1 (u + 1) H locs ls (by omega) hlt hI (by rw [hx9]; exact (lv_sub hl [2, 3, 0] rfl))
          · rw [um_devs_yes hk9]
            have gu : h (a.1 u 0) = some (.inr ((um_ci u), .int (nI (um_words u)) :: .ref (a.1 u 1) :: .int (nI (um_dur u)) :: .long (lN (S.1 u 4)) :: .int (nI (S.1 u 0)) :: .int (nI (S.1 u 1)) :: .int (nI (S.1 u 5)) :: um_tl a S u)) := hR.dev hk9
            refine lv_astore_n (lv' := [(3, .ref (a.1 u 0)), (0, .ref (a.1 20 0)), (1, .ref (a.1 v 0)), (2, .int (nI u))]) hx hb dU_nextDone_19 rfl hl (by decide) rfl (fun ls hl => ?_)
            refine lv_aload_n hx hb dU_nextDone_20 rfl (lv_at hl 0 rfl) ?_
            refine lv_ifnull hx hb dU_nextDone_21 ?_
            refine lv_aload_n hx hb dU_nextDone_24 rfl (lv_at hl 0 rfl) ?_
            refine ur_gD4 hx hb hts hown hV hI (um_ci_D u) gu (hts _ mw79) (fun _ h9 => h9) dU_nextDone_25 ?_
            refine lv_if_eq (tgt := 57) hx hb dU_nextDone_28 (by decide) (fun c6 => ?_) (fun c6 => ?_)
            · refine lv_iinc (v := ((nI u) + 1)) (lv' := [(2, .int ((nI u) + 1)), (3, .ref (a.1 u 0)), (0, .ref (a.1 20 0)), (1, .ref (a.1 v 0))]) hx hb dU_nextDone_57 hl (k := 3) rfl rfl (by decide) rfl (fun ls hl => ?_)
              refine lv_goto (tgt := 4) hx hb dU_nextDone_60 (by decide) ?_
              rw [nI_1] at hl
              have hx9 := (um_nd_f (um_due_0 hB c6)).trans hnx
              exact ihn1 (u + 1) H locs ls (by omega) hlt hI (by rw [hx9]; exact (lv_sub hl [2, 3, 0] rfl))
            · refine lv_aload_n hx hb dU_nextDone_31 rfl (lv_at hl 0 rfl) ?_
              refine ur_gD3 hx hb hts hown hV hI (um_ci_D u) gu (hts _ mw77) (fun _ h9 => h9) dU_nextDone_32 ?_
              refine lv_aload_n hx hb dU_nextDone_35 rfl (lv_at hl 1 rfl) ?_
              refine va_get (D := D) (ci := 0) (v := .long (lN (S.1 20 2))) (C := "UnitRoom") (T := TU) (N := 6) hx hb hts inU hown hV (ur_one hI.1 g0) 0 rfl rfl 4 (by decide) (hts _ mw174) (fun _ h9 => h9) rfl dU_nextDone_36 ?_
              refine W.lcmp hx hb dU_nextDone_39 ?_
              refine lv_if_gt (tgt := 57) hx hb dU_nextDone_40 (by decide) (fun c7 => ?_) (fun c7 => ?_)
              · refine lv_iinc (v := ((nI u) + 1)) (lv' := [(2, .int ((nI u) + 1)), (3, .ref (a.1 u 0)), (0, .ref (a.1 20 0)), (1, .ref (a.1 v 0))]) hx hb dU_nextDone_57 hl (k := 3) rfl rfl (by decide) rfl (fun ls hl => ?_)
                refine lv_goto (tgt := 4) hx hb dU_nextDone_60 (by decide) ?_
                rw [nI_1] at hl
                have hx9 := (um_nd_f (um_due_c hB c7)).trans hnx
                exact ihn1 (u + 1) H locs ls (by omega) hlt hI (by rw [hx9]; exact (lv_sub hl [2, 3, 0] rfl))
              · refine lv_aload_n hx hb dU_nextDone_43 rfl (lv_at hl 2 rfl) ?_
                refine lv_ifnull hx hb dU_nextDone_44 ?_
                refine lv_aload_n hx hb dU_nextDone_47 rfl (lv_at hl 0 rfl) ?_
                refine lv_aload_n hx hb dU_nextDone_48 rfl (lv_at hl 2 rfl) ?_
                obtain ⟨qc8, hqc8, hcw8⟩ := cu_ahead (R := rmkU_next) hts (um_ci_D u) ⟨(Nat.le_of_ble_eq_true rfl), (Nat.le_of_ble_eq_true rfl)⟩
                refine ur_xi (va_runU (As := [.ref (a.1 v 0)]) (rest := []) ⟨hx, hb, hml, hown, hts⟩ (kD_ahead l D E h (a.1 u 0) (a.1 v 0) (um_ci u) (a.1 u 1) (nI (um_words u)) (nI (um_dur u)) (nI (S.1 u 0)) (nI (S.1 u 1)) (nI (S.1 u 5)) (lN (S.1 u 4)) (um_tl a S u) (um_ci v) (a.1 v 1) (nI (um_words v)) (nI (um_dur v)) (nI (S.1 v 0)) (nI (S.1 v 1)) (nI (S.1 v 5)) (lN (S.1 v 4)) (um_tl a S v) gu gv (um_ci_D u) (um_ci_D v) H.size) hcw8 ⟨ur_blind, va_recv hV (ur_one hI.1 gu) (q0 := 0) hqc8 rfl, ur_pre hI hO hK (fun _ _ q => q)⟩ rfl rfl hl.1 rfl (lv_room (Nat.le_of_ble_eq_true rfl)) dU_nextDone_49 ⟨Nat.le_of_ble_eq_true rfl, Nat.le_of_ble_eq_true rfl⟩) hI (fun r9 h9 H locs p9 hI => ?_)
                obtain ⟨er9, eh9⟩ := p9
                replace eh9 := eh9.symm; subst eh9
                refine lv_if_eq (tgt := 57) hx hb dU_nextDone_52 (by decide) (fun c10 => ?_) (fun c10 => ?_)
                · have k11 : (um_ahead (lN (S.1 u 4)) (nI (S.1 u 1)) (lN (S.1 v 4)) (nI (S.1 v 1))) = false := um_b0 er9 c10
                  refine lv_iinc (v := ((nI u) + 1)) (lv' := [(2, .int ((nI u) + 1)), (3, .ref (a.1 u 0)), (0, .ref (a.1 20 0)), (1, .ref (a.1 v 0))]) hx hb dU_nextDone_57 hl (k := 3) rfl rfl (by decide) rfl (fun ls hl => ?_)
                  refine lv_goto (tgt := 4) hx hb dU_nextDone_60 (by decide) ?_
                  rw [nI_1] at hl
                  have hx9 := (um_nd_n (by rw [hnx]; exact (um_ahead_bef hB u v).symm.trans k11)).trans hnx
                  exact ihn1 (u + 1) H locs ls (by omega) hlt hI (by rw [hx9]; exact (lv_sub hl [2, 3, 0] rfl))
                · have k12 : (um_ahead (lN (S.1 u 4)) (nI (S.1 u 1)) (lN (S.1 v 4)) (nI (S.1 v 1))) = true := um_b1 er9 c10
                  refine lv_aload_n hx hb dU_nextDone_55 rfl (lv_at hl 0 rfl) ?_
                  refine lv_astore_n (lv' := [(1, .ref (a.1 u 0)), (3, .ref (a.1 u 0)), (0, .ref (a.1 20 0)), (2, .int (nI u))]) hx hb dU_nextDone_56 rfl hl (by decide) rfl (fun ls hl => ?_)
                  refine lv_iinc (v := ((nI u) + 1)) (lv' := [(2, .int ((nI u) + 1)), (1, .ref (a.1 u 0)), (3, .ref (a.1 u 0)), (0, .ref (a.1 20 0))]) hx hb dU_nextDone_57 hl (k := 3) rfl rfl (by decide) rfl (fun ls hl => ?_)
                  refine lv_goto (tgt := 4) hx hb dU_nextDone_60 (by decide) ?_
                  rw [nI_1] at hl
                  have hx9 := um_nd_t (um_due_t hB hk9 c6 c7) (by rw [hnx]; exact (um_ahead_bef hB u v).symm.trans k12)
                  exact ihn1 (u + 1) H locs ls (by omega) hlt hI (by rw [hx9]; exact (lv_sub hl [3, 1, 0] rfl))
  exact lpn1 _ 0 _ _ ls (Nat.lt_succ_self _) (by decide) hI (lv_sub hl [2, 1, 0] rfl)
theorem um_dev_dlv {a : um_Ad} {S : um_S} (u : Nat) : um_dev a (um_dlv S u) u = .inr (um_ci u, .int (nI (um_words u)) :: .ref (a.1 u 1) :: .int (nI (um_dur u)) :: .long (lN (S.1 u 4)) :: .int 0 :: .int (nI (S.1 u 1)) :: .int (nI (S.1 u 5)) :: um_tl a S u) := by
  simp [um_dlv, um_dev, um_tl, um_sA, um_sF, nI_0]
theorem um_Bd_sA {S : um_S} (hB : um_Bd S) {d k v : Nat} (hv : v < 2 ^ 31) : um_Bd (um_sA S d k v) := by
  intro x y
  by_cases h : x = d ∧ y = k
  · show (if x = d ∧ y = k then v else S.1 x y) < _
    rw [if_pos h]; exact hv
  · rw [um_sA_n S h]; exact hB x y
theorem um_Bd_dlv {S : um_S} (hB : um_Bd S) (u : Nat) : um_Bd (um_dlv S u) := um_Bd_sA (S := um_sF S 20 2 _) hB (by decide)
theorem um_go_none {n : Nat} {S : um_S} (h : um_nd S 20 = none) : um_go n S = S := by
  cases n with
  | zero => rfl
  | succ n => rw [um_go, h]
theorem um_go_some {n u : Nat} {S : um_S} (h : um_nd S 20 = some u) : um_go (n + 1) S = um_go n (um_dlv S u) := by rw [um_go, h]
theorem dU_goOnTo_0 : decode cU_goOnTo 0 = .ok (.aload_n 0, 1) := by decide +kernel
theorem dU_goOnTo_1 : decode cU_goOnTo 1 = .ok (.lload_n 1, 1) := by decide +kernel
theorem dU_goOnTo_2 : decode cU_goOnTo 2 = .ok (.putfield 47, 3) := by decide +kernel
theorem dU_goOnTo_5 : decode cU_goOnTo 5 = .ok (.iconst 0, 1) := by decide +kernel
theorem dU_goOnTo_6 : decode cU_goOnTo 6 = .ok (.istore_n 3, 1) := by decide +kernel
theorem dU_goOnTo_7 : decode cU_goOnTo 7 = .ok (.iload_n 3, 1) := by decide +kernel
theorem dU_goOnTo_8 : decode cU_goOnTo 8 = .ok (.aload_n 0, 1) := by decide +kernel
theorem dU_goOnTo_9 : decode cU_goOnTo 9 = .ok (.getfield 32, 3) := by decide +kernel
theorem dU_goOnTo_12 : decode cU_goOnTo 12 = .ok (.arraylength, 1) := by decide +kernel
theorem dU_goOnTo_13 : decode cU_goOnTo 13 = .ok (.if_icmp .ge 30, 3) := by decide +kernel
theorem dU_goOnTo_16 : decode cU_goOnTo 16 = .ok (.aload_n 0, 1) := by decide +kernel
theorem dU_goOnTo_17 : decode cU_goOnTo 17 = .ok (.invokevirtual 143, 3) := by decide +kernel
theorem dU_goOnTo_20 : decode cU_goOnTo 20 = .ok (.astore 4, 2) := by decide +kernel
theorem dU_goOnTo_22 : decode cU_goOnTo 22 = .ok (.aload 4, 2) := by decide +kernel
theorem dU_goOnTo_24 : decode cU_goOnTo 24 = .ok (.ifnonnull 4, 3) := by decide +kernel
theorem dU_goOnTo_27 : decode cU_goOnTo 27 = .ok (.return_, 1) := by decide +kernel
theorem dU_goOnTo_28 : decode cU_goOnTo 28 = .ok (.aload 4, 2) := by decide +kernel
theorem dU_goOnTo_30 : decode cU_goOnTo 30 = .ok (.aload_n 0, 1) := by decide +kernel
theorem dU_goOnTo_31 : decode cU_goOnTo 31 = .ok (.getfield 10, 3) := by decide +kernel
theorem dU_goOnTo_34 : decode cU_goOnTo 34 = .ok (.invokevirtual 147, 3) := by decide +kernel
theorem dU_goOnTo_37 : decode cU_goOnTo 37 = .ok (.iinc 3 1, 3) := by decide +kernel
theorem dU_goOnTo_40 : decode cU_goOnTo 40 = .ok (.goto (-33), 3) := by decide +kernel
theorem dU_goOnTo_43 : decode cU_goOnTo 43 = .ok (.return_, 1) := by decide +kernel
abbrev rmkU_go : Room := { frames := 3, cells := 0, slots := 0, locals := 69 }
set_option maxHeartbeats 4000000 in
set_option maxRecDepth 100000 in
theorem kU_go (l : Launch) (D : va_G) (E : ur_Ev) (h : ur_M) (a : um_Ad) (S : um_S) (t : Nat)  (hR : um_R E a S h) (hB : um_Bd S) (ht : t < 2 ^ 31) : ur_Mv l yU_goOnTo wsU_goOnTo rmkU_go D vwCl (ur_v E) [.ref (a.1 20 0), .long (lN t)] h (fun h2 => um_R E a (um_goTo S t) h2) 0 0 := by
  intro sz
  refine ur_of (cc := cU_goOnTo) (maxL := 5) (ret := none) (by decide) rfl (Nat.le_of_ble_eq_true rfl) ?_
  intro p e s m args below meth c ls Q hsz hx hb hml hr hlocks hnm hown hts hO hK hI hQ hl
  subst hsz
  have hV := hK.1
  have hts : ∀ w ∈ ur_G, w.before args s = true := fun w hw => hts w (List.mem_cons_of_mem _ hw)
  have hZ : ur_Z E (ur_A h s.heap.size) s s.heap := hO.1
  have hown : s.vm.findClass "UnitRoom" = some m.cls := hown
  have hl : lv_has ls 5 [(0, .ref (a.1 20 0)), (1, .long (lN t))] := hl
  have g0 : h (a.1 20 0) = some (.inr (0, [.ref (a.1 20 1), .ref (a.1 20 3), .ref (a.1 16 0), .ref (a.1 20 5), .long (lN (S.1 20 2)), .int (nI (S.1 20 0))])) := hR.core rfl
  refine lv_aload_n hx hb dU_goOnTo_0 rfl (lv_at hl 0 rfl) ?_
  refine lv_lload_n hx hb dU_goOnTo_1 rfl (lv_at hl 1 rfl) ?_
  refine ur_put (D := D) (ci := 0) (v := .long (lN t)) (ty := .long) (C := "UnitRoom") (T := TU) (N := 6) hx hb hts inU tyU tyU_ok nmU hown hV hI g0 rfl 4 (by decide) (hts _ mw174) (fun _ h9 => h9) rfl (by decide +kernel) rfl rfl (Nat.le_of_ble_eq_true rfl) dU_goOnTo_2 (fun H locs hI => ?_)
  obtain ⟨h1, eh1⟩ : ∃ z : ur_M, z = va_up h (a.1 20 0) (some (.inr (0, [.ref (a.1 20 1), .ref (a.1 20 3), .ref (a.1 16 0), .ref (a.1 20 5), .long (lN t), .int (nI (S.1 20 0))]))) := ⟨_, rfl⟩
  replace hI : ur_I D vwCl (ur_A h s.heap.size) s.heap h1 H locs := by rw [eh1]; exact hI
  have fq2 : h1 (a.1 20 0) = some (.inr (0, [.ref (a.1 20 1), .ref (a.1 20 3), .ref (a.1 16 0), .ref (a.1 20 5), .long (lN t), .int (nI (S.1 20 0))])) := by rw [eh1]; exact (va_up_self _ _ _)
  refine lv_iconst (v := 0) hx hb dU_goOnTo_5 (by decide) ?_
  refine lv_istore_n (lv' := [(3, .int 0), (0, .ref (a.1 20 0)), (1, .long (lN t))]) hx hb dU_goOnTo_6 rfl hl (by decide) rfl (fun ls hl => ?_)
  have hR1 : um_R E a (um_sA S 20 2 t) h1 := by rw [eh1]; exact hR.time (by decide) (by rfl)
  have hB1 : um_Bd (um_sA S 20 2 t) := um_Bd_sA hB ht
  have lpg : ∀ (n k : Nat) (T : um_S) (h1 : ur_M) (H : Heap) (locs : List Loc) (ls : Array Slot), 20 - k < n → k ≤ 20 → um_R E a T h1 → um_Bd T → um_goTo S t = um_go (20 - k) T → ur_I D vwCl (ur_A h s.heap.size) s.heap h1 H locs → lv_has ls 5 [(0, .ref (a.1 20 0)), (3, .int (nI k))] → W p l e rmkU_go s m args below meth c H locs 0 0 Q (F0 m 7 ls []) := by
    intro n
    induction n with
    | zero => intro k T h1 H locs ls hn; exact absurd hn (Nat.not_lt_zero _)
    | succ n ih =>
      intro k T h1 H locs ls hn hk hT hBT hgo hI hl
      have g0 : h1 (a.1 20 0) = some (.inr (0, [.ref (a.1 20 1), .ref (a.1 20 3), .ref (a.1 16 0), .ref (a.1 20 5), .long (lN (T.1 20 2)), .int (nI (T.1 20 0))])) := hT.core rfl
      have g5 : h1 (a.1 20 5) = some (.inl (E.1 2, 20, .inr (.inr (.inr (.inr (um_devs a)))))) := hT.core rfl
      refine lv_iload_n hx hb dU_goOnTo_7 rfl (lv_at hl 1 rfl) ?_
      refine lv_aload_n hx hb dU_goOnTo_8 rfl (lv_at hl 0 rfl) ?_
      refine va_get (D := D) (ci := 0) (v := .ref (a.1 20 5)) (C := "UnitRoom") (T := TU) (N := 6) hx hb hts inU hown hV (ur_one hI.1 g0) 0 rfl rfl 3 (by decide) (hts _ mw173) (fun _ h9 => h9) rfl dU_goOnTo_9 ?_
      refine va_alen (v := 20) hx hb hV (ur_one hI.1 g5) 0 2 rfl rfl rfl dU_goOnTo_12 ?_
      refine lv_icmp_ge (tgt := 43) hx hb dU_goOnTo_13 (by decide) (fun c3 => ?_) (fun c3 => ?_)
      · have he9 : k = 20 := Nat.le_antisymm hk (Nat.not_lt.mp (fun z9 => nI_ge (b := 20) z9 (by decide) c3))
        exact ur_rv hx hb hr hlocks hI hQ (by show um_R E a (um_goTo S t) _; rw [hgo, he9]; exact hT) dU_goOnTo_43
      · have hlt : k < 20 := Nat.not_le.mp (fun z9 => c3 (nI_le z9 (by omega)))
        refine lv_aload_n hx hb dU_goOnTo_16 rfl (lv_at hl 0 rfl) ?_
        refine ur_xq (va_runV (As := []) (rest := []) ⟨hx, hb, hml, hown, hts⟩ (kU_next l D E h1 a T hT hBT H.size) (cwV 0 hts (ur_gV mw273 mw275 ms3 mw1 mw276) rfl rfl rfl (by decide +kernel) ⟨(Nat.le_of_ble_eq_true rfl), (Nat.le_of_ble_eq_true rfl)⟩) ⟨ur_blind, va_recv hV (ur_one hI.1 g0) (ci := 0) (q0 := 0) rfl rfl, ur_pre hI hO hK (fun _ _ q => q)⟩ rfl rfl hl.1 rfl (lv_room (Nat.le_of_ble_eq_true rfl)) dU_goOnTo_17 ⟨Nat.le_of_ble_eq_true rfl, Nat.le_of_ble_eq_true rfl⟩) hI (fun r4 h4 H locs p4 hI => ?_)
        obtain ⟨er4, eh4⟩ := p4
        replace eh4 := eh4.symm; subst eh4
        replace er4 := er4.symm; subst er4
        rcases hnx : um_nd T 20 with _ | u
        · refine lv_astoreN (lv' := [(4, .null), (0, .ref (a.1 20 0)), (3, .int (nI k))]) hx hb dU_goOnTo_20 hl (by decide) rfl (fun ls hl => ?_)
          refine lv_aloadN hx hb dU_goOnTo_22 (lv_at hl 0 rfl) ?_
          refine lv_ifnonnullN hx hb dU_goOnTo_24 ?_
          exact ur_rv hx hb hr hlocks hI hQ (by show um_R E a (um_goTo S t) _; rw [hgo, um_go_none hnx]; exact hT) dU_goOnTo_27
        · obtain ⟨hk9, hu9, -⟩ := um_nd_k hnx
          have gu : h1 (a.1 u 0) = some (.inr ((um_ci u), .int (nI (um_words u)) :: .ref (a.1 u 1) :: .int (nI (um_dur u)) :: .long (lN (T.1 u 4)) :: .int (nI (T.1 u 0)) :: .int (nI (T.1 u 1)) :: .int (nI (T.1 u 5)) :: um_tl a T u)) := hT.dev hk9
          have gb : h1 (a.1 u 1) = some (.inl (E.1 0, (um_words u), .inl (T.2 u 1))) := hT.br hk9
          have gm : h1 (a.1 20 1) = some (.inr (1, [.ref (a.1 20 2)])) := hT.core rfl
          have gc : h1 (a.1 20 2) = some (.inl (E.1 0, 4000, .inl (T.2 20 2))) := hT.core rfl
          have hne1 : a.1 20 2 ≠ a.1 u 1 := hT.apart (um_ct_core 2) (um_ct_br hk9) (by omega)
          have hne2 : a.1 u 0 ≠ a.1 20 1 := hT.apart (um_ct_dev hk9) (um_ct_core 1) (by omega)
          refine lv_astore (lv' := [(4, .ref (a.1 u 0)), (0, .ref (a.1 20 0)), (3, .int (nI k))]) hx hb dU_goOnTo_20 hl (by decide) rfl (fun ls hl => ?_)
          refine lv_aload hx hb dU_goOnTo_22 (lv_at hl 0 rfl) ?_
          refine lv_ifnonnull (tgt := 28) hx hb dU_goOnTo_24 (by decide) ?_
          refine lv_aload hx hb dU_goOnTo_28 (lv_at hl 0 rfl) ?_
          refine lv_aload_n hx hb dU_goOnTo_30 rfl (lv_at hl 1 rfl) ?_
          refine va_get (D := D) (ci := 0) (v := .ref (a.1 20 1)) (C := "UnitRoom") (T := TU) (N := 6) hx hb hts inU hown hV (ur_one hI.1 g0) 0 rfl rfl 0 (by decide) (hts _ mw170) (fun _ h9 => h9) rfl dU_goOnTo_31 ?_
          obtain ⟨qc5, hqc5, hcw5⟩ := cu_deliver (R := rmkU_go) hts (um_ci_D u) ⟨(Nat.le_of_ble_eq_true rfl), (Nat.le_of_ble_eq_true rfl)⟩
          refine ur_xv (va_runU (As := [.ref (a.1 20 1)]) (rest := []) ⟨hx, hb, hml, hown, hts⟩ (kD_deliver l D E h1 (a.1 u 0) (a.1 20 1) (a.1 20 2) (um_ci u) (a.1 u 1) (nI (um_words u)) (nI (um_dur u)) (nI (T.1 u 0)) (nI (T.1 u 1)) (nI (T.1 u 5)) (lN (T.1 u 4)) (um_tl a T u) (T.2 20 2) (T.2 u 1) (um_words u) gu gb gm gc (um_ci_D u) (Nat.le_trans (um_words_le u) (by decide)) hne1 hne2 H.size) hcw5 ⟨ur_blind, va_recv hV (ur_one hI.1 gu) (q0 := 0) hqc5 rfl, ur_pre hI hO hK (fun _ _ q => q)⟩ rfl rfl hl.1 rfl (lv_room (Nat.le_of_ble_eq_true rfl)) dU_goOnTo_34 ⟨Nat.le_of_ble_eq_true rfl, Nat.le_of_ble_eq_true rfl⟩) hI (fun h6 H locs p6 hI => ?_)
          have hT9 : um_R E a (um_dlv T u) h6 := by rw [p6, ← um_dev_dlv]; exact hT.dlv hk9
          refine lv_iinc (v := ((nI k) + 1)) (lv' := [(3, .int ((nI k) + 1)), (4, .ref (a.1 u 0)), (0, .ref (a.1 20 0))]) hx hb dU_goOnTo_37 hl (k := 2) rfl rfl (by decide) rfl (fun ls hl => ?_)
          refine lv_goto (tgt := 7) hx hb dU_goOnTo_40 (by decide) ?_
          rw [nI_1] at hl
          exact ih (k + 1) (um_dlv T u) _ H locs ls (by omega) hlt hT9 (um_Bd_dlv hBT u) (by rw [hgo, show 20 - k = (20 - (k + 1)) + 1 by omega, um_go_some hnx]) hI (lv_sub hl [2, 0] rfl)
  exact lpg _ 0 (um_sA S 20 2 t) _ _ _ ls (Nat.lt_succ_self _) (by decide) hR1 hB1 rfl hI (lv_sub hl [1, 0] rfl)
