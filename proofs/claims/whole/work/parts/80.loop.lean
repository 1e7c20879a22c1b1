/-! the law's loop -/
theorem lw_W.up {D : va_G} {E : ur_Ev} {s : State} {q : Nat} {b : Nat → Nat} {n : Nat} {H : Heap} {locs : List Loc} (h : lw_W D E s q b n H locs) : lw_W D E s q b (n + 1) H locs := by
  obtain ⟨hC, hF, S, T, h1, h2, h3, h4, h5⟩ := h
  exact ⟨hC, hF, S, T, h1, h2, h3.up, h4, h5⟩
theorem lw_more {L n : Nat} (hL : L ≤ 3072) (hn : n ≤ 512) (h : ¬ nI L - 6 < nI (6 * n)) : 6 * n + 6 ≤ L := by
  rcases Nat.lt_or_ge L 6 with q | q
  · exact absurd (Int32.lt_of_lt_of_le (show nI L - 6 < 0 from pk_sneg (b := 6) (by decide) q) (nI_pos' (by omega))) h
  · rw [show nI L - 6 = nI (L - 6) from pk_sub (b := 6) q, nI_ltI (by omega) (by omega)] at h
    omega
set_option maxHeartbeats 4000000 in
set_option maxRecDepth 100000 in
/-- THE LOOP -/
theorem lw_loop {p : Program} {e : Env} {s : State} {m : MethodId} {below : List Frame} {meth : Method} {c : Code} (l : Launch) {b0 L : Nat} {xs : Nat → Int32} {D : va_G} {E : ur_Ev} (hx : p.tables.exec = Jvm.exec) (hb : c.code = code) (hml : c.maxLocals = 4) (hown : s.vm.findClass "UnitRoomLaw" = some m.cls) (hts : ∀ w ∈ ur_G, w.before #[Value.ref b0] s = true) (hX : va_X b0 L xs s s.heap) (hbl : b0 < s.heap.size) (hbA : ¬ ur_A (fun _ => none) s.heap.size b0) (hK : ur_K D vwCl (ur_v E) s) (hO : ur_O (ur_v E) (ur_A (fun _ => none) s.heap.size) s s.heap) (hL3 : L ≤ 3072) (hr : meth.sig.returnType = ret) (hlocks : meth.locks = false) {q : Nat} {b : Nat → Nat} : ∀ (f n : Nat) (H : Heap) (locs : List Loc) (ls : Array Slot), 512 - n < f → n ≤ 512 → lw_W D E s q b n H locs → lv_has ls 4 [(0, .ref b0), (1, .ref q), (2, .ref (b 0)), (3, .int (nI (6 * n)))] → W p l e room_1 s m #[Value.ref b0] below meth c H locs (51 + n) (169226 + 120 * n) (lw_Z below #[Value.ref b0] s) (F0 m 18 ls []) := by
  intro f
  induction f with
  | zero => intro n H locs ls hf; exact absurd hf (Nat.not_lt_zero _)
  | succ f ih =>
    intro n H locs ls hf hn hw hl
    have hS : va_S (ur_A (fun _ => none) s.heap.size) s.heap H locs := by
      obtain ⟨hC, hF, S, T, h1, h2, h3, h4, h5⟩ := hw
      exact h5.2.2.1
    refine lv_iload_n hx hb dL_law_18 rfl (lv_at hl 3 rfl) ?_
    refine lv_aload_n hx hb dL_law_19 rfl (lv_at hl 0 rfl) ?_
    refine va_slen hx hb hX hbl hbA hS dL_law_20 ?_
    refine lv_bipush (v := 6) hx hb dL_law_21 (by decide) ?_
    refine lv_isub hx hb dL_law_23 ?_
    refine lv_icmp_gt (tgt := 535) hx hb dL_law_24 (by decide) (fun c1 => ?_) (fun c1 => ?_)
    · refine lv_iconst (v := 1) hx hb dL_law_535 (by decide) ?_
      refine va_forget (fun q hq => (hS.2.2 q hq).resolve_left (fun z => by obtain ⟨e0, z⟩ := z; cases z)) ?_
      refine W.widen (k := 600000) (n := 7302250) (by omega) (by omega) ?_
      exact lw_ret hx hb hr hlocks dL_law_536
    · have hi : 6 * n + 6 ≤ L := lw_more hL3 hn c1
      have next : ∀ (H : Heap) (locs : List Loc) (ls : Array Slot), lw_W D E s q b (n + 1) H locs → lv_has ls 4 [(0, .ref b0), (1, .ref q), (2, .ref (b 0)), (3, .int (nI (6 * n)))] → W p l e room_1 s m #[Value.ref b0] below meth c H locs (51 + (n + 1)) (169226 + 120 * (n + 1)) (lw_Z below #[Value.ref b0] s) (F0 m 529 ls []) := by
        intro H locs ls hw hl
        refine lv_iinc (v := nI (6 * (n + 1))) (lv' := [(3, .int (nI (6 * (n + 1)))), (0, .ref b0), (1, .ref q), (2, .ref (b 0))]) hx hb dL_law_529 hl (k := 3) rfl (by rw [show (6 * (n + 1)) = 6 * n + 6 by omega, ← nI_add]; rfl) (by decide) rfl (fun ls hl => ?_)
        refine lv_goto (tgt := 18) hx hb dL_law_532 (by decide) ?_
        exact ih (n + 1) H locs ls (by omega) (by omega) hw (lv_sub hl [1, 2, 3, 0] rfl)
      refine lv_aload_n hx hb dL_law_27 rfl (lv_at hl 0 rfl) ?_
      refine lv_iload_n hx hb dL_law_28 rfl (lv_at hl 3 rfl) ?_
      refine va_sld hx hb hX hbl hbA hS (i := nI (6 * n)) (vp_in_nI (by omega) (by omega)) dL_law_29 ?_
      refine lv_bipush (v := 15) hx hb dL_law_30 (by decide) ?_
      refine lv_iand hx hb dL_law_32 ?_
      refine lv_topi (fun x9 ex9 => ?_)
      obtain ⟨j, hj, ej⟩ := pk_andE (xs (nI (6 * n)).toNatClampNeg) (m := 15) 4 (by decide)
      rw [ej] at ex9
      subst ex9
      have hjI : (nI j).toInt = (j : Int) := nI_toInt (by omega)
      rcases (show j = 0 ∨ j = 1 ∨ j = 2 ∨ j = 3 ∨ j = 4 ∨ j = 5 ∨ j = 6 ∨ j = 7 ∨ j = 8 ∨ j = 9 ∨ j = 10 ∨ j = 11 ∨ 12 ≤ j by omega) with rfl | rfl | rfl | rfl | rfl | rfl | rfl | rfl | rfl | rfl | rfl | rfl | h12
      · refine lv_tableIn (off := 63) (tgt := 96) hx hb dL_law_33 (by decide) (by decide) (by decide) (by decide) ?_
        exact lw_c0 l hx hb hml hown hts hX hbl hbA hK hO hL3 hi next hw hl
      · refine lv_tableIn (off := 126) (tgt := 159) hx hb dL_law_33 (by decide) (by decide) (by decide) (by decide) ?_
        exact lw_c1 l hx hb hml hown hts hX hbl hbA hK hO hL3 hi next hw hl
      · refine lv_tableIn (off := 149) (tgt := 182) hx hb dL_law_33 (by decide) (by decide) (by decide) (by decide) ?_
        exact lw_c2 l hx hb hml hown hts hX hbl hbA hK hO hL3 hi next hw hl
      · refine lv_tableIn (off := 208) (tgt := 241) hx hb dL_law_33 (by decide) (by decide) (by decide) (by decide) ?_
        exact lw_c3 l hx hb hml hown hts hX hbl hbA hK hO hL3 hi next hw hl
      · refine lv_tableIn (off := 251) (tgt := 284) hx hb dL_law_33 (by decide) (by decide) (by decide) (by decide) ?_
        exact lw_c4 l hx hb hml hown hts hX hbl hbA hK hO hL3 hi next hw hl
      · refine lv_tableIn (off := 274) (tgt := 307) hx hb dL_law_33 (by decide) (by decide) (by decide) (by decide) ?_
        exact lw_c5 l hx hb hml hown hts hX hbl hbA hK hO hL3 hi next hw hl
      · refine lv_tableIn (off := 327) (tgt := 360) hx hb dL_law_33 (by decide) (by decide) (by decide) (by decide) ?_
        exact lw_c6 l hx hb hml hown hts hX hbl hbA hK hO hL3 hi next hw hl
      · refine lv_tableIn (off := 350) (tgt := 383) hx hb dL_law_33 (by decide) (by decide) (by decide) (by decide) ?_
        exact lw_c7 l hx hb hml hown hts hX hbl hbA hK hO hL3 hi next hw hl
      · refine lv_tableIn (off := 374) (tgt := 407) hx hb dL_law_33 (by decide) (by decide) (by decide) (by decide) ?_
        exact lw_c8 l hx hb hml hown hts hX hbl hbA hK hO hL3 hi next hw hl
      · refine lv_tableIn (off := 387) (tgt := 420) hx hb dL_law_33 (by decide) (by decide) (by decide) (by decide) ?_
        exact lw_c9 l hx hb hml hown hts hX hbl hbA hK hO hL3 hi next hw hl
      · refine lv_tableIn (off := 410) (tgt := 443) hx hb dL_law_33 (by decide) (by decide) (by decide) (by decide) ?_
        exact lw_c10 l hx hb hml hown hts hX hbl hbA hK hO hL3 hi next hw hl
      · refine lv_tableIn (off := 453) (tgt := 486) hx hb dL_law_33 (by decide) (by decide) (by decide) (by decide) ?_
        exact lw_c11 l hx hb hml hown hts hX hbl hbA hK hO hL3 hi next hw hl
      · refine lv_tableOut (tgt := 529) hx hb dL_law_33 (Or.inr (by rw [hjI]; omega)) (by decide) ?_
        refine W.widen (k := 51 + (n + 1)) (n := 169226 + 120 * (n + 1)) (by omega) (by omega) ?_
        exact next _ _ ls hw.up hl
