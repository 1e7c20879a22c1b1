/-- the first state -/
def um_S0 : um_S := (fun _ _ => 0, fun _ _ _ => 0)
def um_ix (d j : Nat) : Nat := if d = 20 then (if j = 5 then 8 else j) else if d = 16 then 5 + j else if d < 4 then 9 + 3 * d + j else if d = 8 then 21 + j else if d = 9 then 24 + j else 27 + 3 * (d - 17) + j
def um_vd (d j : Nat) : Bool := (decide (d = 20) && decide (j < 6)) || (decide (um_kind d ≠ 4) && decide (j < 3))
def um_ixB : Bool := (List.range 21).all (fun d => (List.range 6).all (fun j => (List.range 21).all (fun x => (List.range 6).all (fun y => !(um_vd d j && um_vd x y && (um_ix d j == um_ix x y)) || ((d == x) && (j == y))))))
theorem um_ixB_t : um_ixB = true := by decide +kernel
theorem um_ix_inj (d : Nat) (hd : d < 21) (j : Nat) (hj : j < 6) (x : Nat) (hx : x < 21) (y : Nat) (hy : y < 6) (v1 : um_vd d j = true) (v2 : um_vd x y = true) (e : um_ix d j = um_ix x y) : d = x ∧ j = y := by
  have q := um_ixB_t
  unfold um_ixB at q
  have q1 := List.all_eq_true.mp q d (List.mem_range.mpr hd)
  have q2 := List.all_eq_true.mp q1 j (List.mem_range.mpr hj)
  have q3 := List.all_eq_true.mp q2 x (List.mem_range.mpr hx)
  have q4 := List.all_eq_true.mp q3 y (List.mem_range.mpr hy)
  rw [v1, v2, e] at q4
  simpa using q4
theorem um_ten : ∀ d, d < 20 → um_kind d ≠ 4 → d = 0 ∨ d = 1 ∨ d = 2 ∨ d = 3 ∨ d = 8 ∨ d = 9 ∨ d = 16 ∨ d = 17 ∨ d = 18 ∨ d = 19 := by decide
def um_a0 (ws : List Nat) : um_Ad := (fun d j => ws.getD (um_ix d j) 0, fun _ _ => false)
theorem um_ct_row0 {E : ur_Ev} {ws : List Nat} {S : um_S} {d b : Nat} {e : va_E} (h : um_ct E (um_a0 ws) S d (b + 3) = some e) : d = 20 := by
  by_cases z : d = 20
  · exact z
  · exfalso
    unfold um_ct at h
    rw [if_neg z] at h
    by_cases k : um_kind d = 4
    · rw [if_pos k] at h; cases h
    · rw [if_neg k] at h; cases h
theorem um_devs0 (q w1 wb4 w6 wb9 w11 wb14 wl14 w16 w20 wb23 wl23 w26 wb29 wl29 w32 wb35 wl35 w38 wb41 wl41 w44 wb47 wl47 w49 wb52 wl52 w55 wb58 wl58 w60 wb63 wl63 w65 wb68 wl68 : Nat) : um_devs (um_a0 [q, w1, wb4, w6, wb9, w11, wb14, wl14, w16, w20, wb23, wl23, w26, wb29, wl29, w32, wb35, wl35, w38, wb41, wl41, w44, wb47, wl47, w49, wb52, wl52, w55, wb58, wl58, w60, wb63, wl63, w65, wb68, wl68]) = (va_up (va_up (va_up (va_up (va_up (va_up (va_up (va_up (va_up (va_up (fun _ => none) (Int32.toNatClampNeg 0) (some w20)) (Int32.toNatClampNeg 1) (some w26)) (Int32.toNatClampNeg 2) (some w32)) (Int32.toNatClampNeg 3) (some w38)) (Int32.toNatClampNeg 8) (some w44)) (Int32.toNatClampNeg 9) (some w49)) (Int32.toNatClampNeg 16) (some w11)) (Int32.toNatClampNeg 17) (some w55)) (Int32.toNatClampNeg 18) (some w60)) (Int32.toNatClampNeg 19) (some w65)) := by
  funext u
  rcases Nat.lt_or_ge u 20 with q | q
  · rcases (show u = 0 ∨ u = 1 ∨ u = 2 ∨ u = 3 ∨ u = 4 ∨ u = 5 ∨ u = 6 ∨ u = 7 ∨ u = 8 ∨ u = 9 ∨ u = 10 ∨ u = 11 ∨ u = 12 ∨ u = 13 ∨ u = 14 ∨ u = 15 ∨ u = 16 ∨ u = 17 ∨ u = 18 ∨ u = 19 by omega) with rfl | rfl | rfl | rfl | rfl | rfl | rfl | rfl | rfl | rfl | rfl | rfl | rfl | rfl | rfl | rfl | rfl | rfl | rfl | rfl <;> rfl
  · have e : um_kind u = 4 := by
      unfold um_kind
      rw [if_neg (by omega), if_neg (by omega), if_neg (by omega), if_neg (by omega), if_neg (by omega), if_neg (by omega), if_neg (by omega)]
    rw [um_devs_no e]
    have n : ∀ k, k < 20 → u ≠ k := fun k hk => by omega
    rw [va_up_ne _ _ (n _ (by decide)), va_up_ne _ _ (n _ (by decide)), va_up_ne _ _ (n _ (by decide)), va_up_ne _ _ (n _ (by decide)), va_up_ne _ _ (n _ (by decide)), va_up_ne _ _ (n _ (by decide)), va_up_ne _ _ (n _ (by decide)), va_up_ne _ _ (n _ (by decide)), va_up_ne _ _ (n _ (by decide)), va_up_ne _ _ (n _ (by decide))]
set_option maxHeartbeats 4000000 in
set_option maxRecDepth 100000 in
theorem um_at0 (E : ur_Ev) (q w1 wb4 w6 wb9 w11 wb14 wl14 w16 w20 wb23 wl23 w26 wb29 wl29 w32 wb35 wl35 w38 wb41 wl41 w44 wb47 wl47 w49 wb52 wl52 w55 wb58 wl58 w60 wb63 wl63 w65 wb68 wl68 : Nat) : ∀ d j e, um_ct E (um_a0 [q, w1, wb4, w6, wb9, w11, wb14, wl14, w16, w20, wb23, wl23, w26, wb29, wl29, w32, wb35, wl35, w38, wb41, wl41, w44, wb47, wl47, w49, wb52, wl52, w55, wb58, wl58, w60, wb63, wl63, w65, wb68, wl68]) um_S0 d j = some e → ([(q, .inr (0, [.ref w1, .ref w6, .ref w11, .ref w16, .long 0, .int 0])), (w1, .inr (1, [.ref wb4])), (wb4, .inl (E.1 0, 4000, .inl (fun _ => 0))), (w6, .inr (2, [.ref wb9, .int 0])), (wb9, .inl (E.1 1, 400, .inl (fun _ => 0))), (w11, .inr (5, [.int 16, .ref wb14, .int 1000, .long 0, .int 0, .int 0, .int 0, .ref wl14, .int 0, .int 0])), (wb14, .inl (E.1 0, 16, .inl (fun _ => 0))), (wl14, .inl (E.1 0, 1600, .inl (fun _ => 0))), (w16, .inl (E.1 2, 20, .inr (.inr (.inr (.inr (va_up (va_up (va_up (va_up (va_up (va_up (va_up (va_up (va_up (va_up (fun _ => none) (Int32.toNatClampNeg 0) (some w20)) (Int32.toNatClampNeg 1) (some w26)) (Int32.toNatClampNeg 2) (some w32)) (Int32.toNatClampNeg 3) (some w38)) (Int32.toNatClampNeg 8) (some w44)) (Int32.toNatClampNeg 9) (some w49)) (Int32.toNatClampNeg 16) (some w11)) (Int32.toNatClampNeg 17) (some w55)) (Int32.toNatClampNeg 18) (some w60)) (Int32.toNatClampNeg 19) (some w65))))))), (w20, .inr (3, [.int 100, .ref wb23, .int 500, .long 0, .int 0, .int 0, .int 0, .int 0, .ref wl23])), (wb23, .inl (E.1 0, 100, .inl (fun _ => 0))), (wl23, .inl (E.1 3, 64, .inr (.inr (.inr (.inr (fun _ => none)))))), (w26, .inr (3, [.int 100, .ref wb29, .int 500, .long 0, .int 0, .int 0, .int 0, .int 0, .ref wl29])), (wb29, .inl (E.1 0, 100, .inl (fun _ => 0))), (wl29, .inl (E.1 3, 64, .inr (.inr (.inr (.inr (fun _ => none)))))), (w32, .inr (3, [.int 100, .ref wb35, .int 500, .long 0, .int 0, .int 0, .int 0, .int 0, .ref wl35])), (wb35, .inl (E.1 0, 100, .inl (fun _ => 0))), (wl35, .inl (E.1 3, 64, .inr (.inr (.inr (.inr (fun _ => none)))))), (w38, .inr (3, [.int 100, .ref wb41, .int 500, .long 0, .int 0, .int 0, .int 0, .int 0, .ref wl41])), (wb41, .inl (E.1 0, 100, .inl (fun _ => 0))), (wl41, .inl (E.1 3, 64, .inr (.inr (.inr (.inr (fun _ => none)))))), (w44, .inr (4, [.int 100, .ref wb47, .int 400, .long 0, .int 0, .int 0, .int 0, .ref wl47])), (wb47, .inl (E.1 0, 100, .inl (fun _ => 0))), (wl47, .inl (E.1 3, 64, .inr (.inr (.inr (.inr (fun _ => none)))))), (w49, .inr (4, [.int 100, .ref wb52, .int 400, .long 0, .int 0, .int 0, .int 0, .ref wl52])), (wb52, .inl (E.1 0, 100, .inl (fun _ => 0))), (wl52, .inl (E.1 3, 64, .inr (.inr (.inr (.inr (fun _ => none)))))), (w55, .inr (6, [.int (nI 16), .ref wb58, .int 1500, .long 0, .int 0, .int 0, .int 0, .ref wl58, .int 0, .int 0])), (wb58, .inl (E.1 0, 16, .inl (fun _ => 0))), (wl58, .inl (E.1 4, 300, .inr (.inr (.inr (.inr (fun _ => none)))))), (w60, .inr (6, [.int (nI 24), .ref wb63, .int 750, .long 0, .int 0, .int 0, .int 0, .ref wl63, .int 1, .int 0])), (wb63, .inl (E.1 0, 24, .inl (fun _ => 0))), (wl63, .inl (E.1 4, 300, .inr (.inr (.inr (.inr (fun _ => none)))))), (w65, .inr (6, [.int (nI 14), .ref wb68, .int 900, .long 0, .int 0, .int 0, .int 0, .ref wl68, .int 0, .int 0])), (wb68, .inl (E.1 0, 14, .inl (fun _ => 0))), (wl68, .inl (E.1 4, 300, .inr (.inr (.inr (.inr (fun _ => none))))))] : List (Nat × va_E))[um_ix d j]? = some ((um_a0 [q, w1, wb4, w6, wb9, w11, wb14, wl14, w16, w20, wb23, wl23, w26, wb29, wl29, w32, wb35, wl35, w38, wb41, wl41, w44, wb47, wl47, w49, wb52, wl52, w55, wb58, wl58, w60, wb63, wl63, w65, wb68, wl68]).1 d j, e) ∧ um_vd d j = true ∧ d < 21 ∧ j < 6 := by
  intro d j e he
  by_cases h20 : d = 20
  · subst h20
    rw [um_ct_core] at he
    match j, he with
    | 0, he => cases he; exact ⟨rfl, rfl, by decide, by decide⟩
    | 1, he => cases he; exact ⟨rfl, rfl, by decide, by decide⟩
    | 2, he => cases he; exact ⟨rfl, rfl, by decide, by decide⟩
    | 3, he => cases he; exact ⟨rfl, rfl, by decide, by decide⟩
    | 4, he => cases he; exact ⟨rfl, rfl, by decide, by decide⟩
    | 5, he =>
      unfold um_core at he
      rw [um_devs0] at he
      cases he
      exact ⟨rfl, rfl, by decide, by decide⟩
    | n + 6, he => cases he
  · have hk : um_kind d ≠ 4 := fun z => by
      unfold um_ct at he
      rw [if_neg h20, if_pos z] at he
      cases he
    match j, he with
    | 0, he =>
      rw [um_ct_dev hk] at he
      cases he
      rcases um_ten d (um_k20' hk) hk with rfl | rfl | rfl | rfl | rfl | rfl | rfl | rfl | rfl | rfl <;> exact ⟨rfl, rfl, by decide, by decide⟩
    | 1, he =>
      rw [um_ct_br hk] at he
      cases he
      rcases um_ten d (um_k20' hk) hk with rfl | rfl | rfl | rfl | rfl | rfl | rfl | rfl | rfl | rfl <;> exact ⟨rfl, rfl, by decide, by decide⟩
    | 2, he =>
      rw [um_ct_two hk] at he
      cases he
      rcases um_ten d (um_k20' hk) hk with rfl | rfl | rfl | rfl | rfl | rfl | rfl | rfl | rfl | rfl <;> exact ⟨rfl, rfl, by decide, by decide⟩
    | b + 3, he => exact absurd (um_ct_row0 he) h20
theorem um_new (E : ur_Ev) {h : ur_M} (q w1 wb4 w6 wb9 w11 wb14 wl14 w16 w20 wb23 wl23 w26 wb29 wl29 w32 wb35 wl35 w38 wb41 wl41 w44 wb47 wl47 w49 wb52 wl52 w55 wb58 wl58 w60 wb63 wl63 w65 wb68 wl68 : Nat) (hL : um_L [(q, .inr (0, [.ref w1, .ref w6, .ref w11, .ref w16, .long 0, .int 0])), (w1, .inr (1, [.ref wb4])), (wb4, .inl (E.1 0, 4000, .inl (fun _ => 0))), (w6, .inr (2, [.ref wb9, .int 0])), (wb9, .inl (E.1 1, 400, .inl (fun _ => 0))), (w11, .inr (5, [.int 16, .ref wb14, .int 1000, .long 0, .int 0, .int 0, .int 0, .ref wl14, .int 0, .int 0])), (wb14, .inl (E.1 0, 16, .inl (fun _ => 0))), (wl14, .inl (E.1 0, 1600, .inl (fun _ => 0))), (w16, .inl (E.1 2, 20, .inr (.inr (.inr (.inr (va_up (va_up (va_up (va_up (va_up (va_up (va_up (va_up (va_up (va_up (fun _ => none) (Int32.toNatClampNeg 0) (some w20)) (Int32.toNatClampNeg 1) (some w26)) (Int32.toNatClampNeg 2) (some w32)) (Int32.toNatClampNeg 3) (some w38)) (Int32.toNatClampNeg 8) (some w44)) (Int32.toNatClampNeg 9) (some w49)) (Int32.toNatClampNeg 16) (some w11)) (Int32.toNatClampNeg 17) (some w55)) (Int32.toNatClampNeg 18) (some w60)) (Int32.toNatClampNeg 19) (some w65))))))), (w20, .inr (3, [.int 100, .ref wb23, .int 500, .long 0, .int 0, .int 0, .int 0, .int 0, .ref wl23])), (wb23, .inl (E.1 0, 100, .inl (fun _ => 0))), (wl23, .inl (E.1 3, 64, .inr (.inr (.inr (.inr (fun _ => none)))))), (w26, .inr (3, [.int 100, .ref wb29, .int 500, .long 0, .int 0, .int 0, .int 0, .int 0, .ref wl29])), (wb29, .inl (E.1 0, 100, .inl (fun _ => 0))), (wl29, .inl (E.1 3, 64, .inr (.inr (.inr (.inr (fun _ => none)))))), (w32, .inr (3, [.int 100, .ref wb35, .int 500, .long 0, .int 0, .int 0, .int 0, .int 0, .ref wl35])), (wb35, .inl (E.1 0, 100, .inl (fun _ => 0))), (wl35, .inl (E.1 3, 64, .inr (.inr (.inr (.inr (fun _ => none)))))), (w38, .inr (3, [.int 100, .ref wb41, .int 500, .long 0, .int 0, .int 0, .int 0, .int 0, .ref wl41])), (wb41, .inl (E.1 0, 100, .inl (fun _ => 0))), (wl41, .inl (E.1 3, 64, .inr (.inr (.inr (.inr (fun _ => none)))))), (w44, .inr (4, [.int 100, .ref wb47, .int 400, .long 0, .int 0, .int 0, .int 0, .ref wl47])), (wb47, .inl (E.1 0, 100, .inl (fun _ => 0))), (wl47, .inl (E.1 3, 64, .inr (.inr (.inr (.inr (fun _ => none)))))), (w49, .inr (4, [.int 100, .ref wb52, .int 400, .long 0, .int 0, .int 0, .int 0, .ref wl52])), (wb52, .inl (E.1 0, 100, .inl (fun _ => 0))), (wl52, .inl (E.1 3, 64, .inr (.inr (.inr (.inr (fun _ => none)))))), (w55, .inr (6, [.int (nI 16), .ref wb58, .int 1500, .long 0, .int 0, .int 0, .int 0, .ref wl58, .int 0, .int 0])), (wb58, .inl (E.1 0, 16, .inl (fun _ => 0))), (wl58, .inl (E.1 4, 300, .inr (.inr (.inr (.inr (fun _ => none)))))), (w60, .inr (6, [.int (nI 24), .ref wb63, .int 750, .long 0, .int 0, .int 0, .int 0, .ref wl63, .int 1, .int 0])), (wb63, .inl (E.1 0, 24, .inl (fun _ => 0))), (wl63, .inl (E.1 4, 300, .inr (.inr (.inr (.inr (fun _ => none)))))), (w65, .inr (6, [.int (nI 14), .ref wb68, .int 900, .long 0, .int 0, .int 0, .int 0, .ref wl68, .int 0, .int 0])), (wb68, .inl (E.1 0, 14, .inl (fun _ => 0))), (wl68, .inl (E.1 4, 300, .inr (.inr (.inr (.inr (fun _ => none))))))] h) : ∃ a : um_Ad, a.1 20 0 = q ∧ um_A a um_S0 ∧ um_R E a um_S0 h := by
  refine ⟨um_a0 [q, w1, wb4, w6, wb9, w11, wb14, wl14, w16, w20, wb23, wl23, w26, wb29, wl29, w32, wb35, wl35, w38, wb41, wl41, w44, wb47, wl47, w49, wb52, wl52, w55, wb58, wl58, w60, wb63, wl63, w65, wb68, wl68], rfl, ?_, ?_⟩
  · intro d b _ z
    exact absurd z (by show ¬ (false = true); decide)
  refine ⟨fun d j e he => hL.at _ (um_at0 E q w1 wb4 w6 wb9 w11 wb14 wl14 w16 w20 wb23 wl23 w26 wb29 wl29 w32 wb35 wl35 w38 wb41 wl41 w44 wb47 wl47 w49 wb52 wl52 w55 wb58 wl58 w60 wb63 wl63 w65 wb68 wl68 d j e he).1, fun d j d' j' e e' he he' z => ?_, fun _ _ _ _ => rfl, fun d b _ z => absurd z (Nat.not_lt_zero _)⟩
  obtain ⟨h1, h2, h3, h4⟩ := um_at0 E q w1 wb4 w6 wb9 w11 wb14 wl14 w16 w20 wb23 wl23 w26 wb29 wl29 w32 wb35 wl35 w38 wb41 wl41 w44 wb47 wl47 w49 wb52 wl52 w55 wb58 wl58 w60 wb63 wl63 w65 wb68 wl68 d j e he
  obtain ⟨g1, g2, g3, g4⟩ := um_at0 E q w1 wb4 w6 wb9 w11 wb14 wl14 w16 w20 wb23 wl23 w26 wb29 wl29 w32 wb35 wl35 w38 wb41 wl41 w44 wb47 wl47 w49 wb52 wl52 w55 wb58 wl58 w60 wb63 wl63 w65 wb68 wl68 d' j' e' he'
  rw [z] at h1
  exact um_ix_inj d h3 j h4 d' g3 j' g4 h2 g2 (hL.2 _ _ _ _ _ h1 g1)
