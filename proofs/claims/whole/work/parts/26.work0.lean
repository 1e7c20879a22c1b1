/-! the state behind an operation -/
section UMW
variable {E : ur_Ev} {a : um_Ad} {S S' : um_S} {h : ur_M}
/-- numbers of one unit change its object alone -/
theorem um_ct_obj {d : Nat} (hd : d ≠ 20) (hA : ∀ x y, ¬ (x = d ∧ y < 6) → S'.1 x y = S.1 x y) (hF : S'.2 = S.2) (d' j' : Nat) (hn : ¬ (d' = d ∧ j' = 0)) : um_ct E a S' d' j' = um_ct E a S d' j' := by
  unfold um_ct
  by_cases h20 : d' = 20
  · rw [if_pos h20, if_pos h20]
    unfold um_core
    have e : ∀ y, S'.1 20 y = S.1 20 y := fun y => hA 20 y (fun z => hd z.1.symm)
    simp only [e, hF]
  · rw [if_neg h20, if_neg h20]
    by_cases h4 : um_kind d' = 4
    · rw [if_pos h4, if_pos h4]
    · rw [if_neg h4, if_neg h4]
      match j', hn with
      | 0, hn =>
        have e : ∀ y, S'.1 d' y = S.1 d' y := fun y => hA d' y (fun z => hn ⟨z.1, rfl⟩)
        show some (um_dev a S' d') = some (um_dev a S d')
        unfold um_dev um_tl
        simp only [e]
      | 1, _ => show some _ = some _; rw [hF]
      | 2, _ =>
        show some (um_two E a S' d') = some (um_two E a S d')
        unfold um_two
        rw [hF]
      | b + 3, _ =>
        show (if a.2 d' b = true then some (um_row E S' d' b) else none) = (if a.2 d' b = true then some (um_row E S d' b) else none)
        unfold um_row
        rw [hA d' (6 + b) (fun z => by omega), hF]
theorem um_R.obj (hR : um_R E a S h) {d : Nat} (hd : um_kind d ≠ 4) (hA : ∀ x y, ¬ (x = d ∧ y < 6) → S'.1 x y = S.1 x y) (hF : S'.2 = S.2) (h4 : um_kind d = 3 → ∀ b, b < S'.1 d 2 → a.2 d b = true ∧ S'.1 d (6 + b) ≤ 120) {e : va_E} (he : um_dev a S' d = e) : um_R E a S' (va_up h (a.1 d 0) (some e)) :=
  hR.put d 0 (um_ct_dev hd) ((um_ct_dev hd).trans (by rw [he])) (um_ct_obj (um_d20 hd) hA hF) (fun d' b q1 q2 => by rw [hF]; exact hR.2.2.1 d' b q1 q2) (fun d' b q1 q2 => by
    by_cases z : d' = d
    · subst z; exact h4 q1 b q2
    · rw [hA d' 2 (fun y => z y.1)] at q2
      rw [hA d' (6 + b) (fun y => z y.1)]
      exact hR.2.2.2 d' b q1 q2)
/-- the content of a row that is there -/
theorem um_R.rowput (hR : um_R E a S h) {d b : Nat} (hd : um_kind d ≤ 1) (hb : a.2 d b = true) (f : Nat → Int32) : um_R E a (um_sF S d (3 + b) f) (va_up h (a.1 d (3 + b)) (some (.inl (E.1 0, 100, .inl f)))) := by
  refine hR.put d (3 + b) (e0 := um_row E S d b) ?_ ?_ um_ct_sF (fun d' b' q1 q2 => ?_) hR.2.2.2
  · rw [um_ct_row (by omega), if_pos hb]
  · rw [um_ct_row (by omega), if_pos hb]
    unfold um_row
    rw [if_neg (by omega), um_sF_1]
  · by_cases z : d' = d ∧ 3 + b' = 3 + b
    · have e1 := z.1
      have e2 : b' = b := by omega
      subst e1
      subst e2
      rw [hb] at q2
      cases q2
    · rw [um_sF_n S z]
      exact hR.2.2.1 d' b' q1 q2
def um_aw (a : um_Ad) (d b x : Nat) : um_Ad := (fun p q => if p = d ∧ q = 3 + b then x else a.1 p q, fun p q => if p = d ∧ q = b then true else a.2 p q)
theorem um_aw_1 {d b x p q : Nat} (h : ¬ (p = d ∧ q = 3 + b)) : (um_aw a d b x).1 p q = a.1 p q := if_neg h
theorem um_aw_x {d b x : Nat} : (um_aw a d b x).1 d (3 + b) = x := if_pos ⟨rfl, rfl⟩
theorem um_aw_2 {d b x p q : Nat} (h : ¬ (p = d ∧ q = b)) : (um_aw a d b x).2 p q = a.2 p q := if_neg h
theorem um_aw_t {d b x : Nat} : (um_aw a d b x).2 d b = true := if_pos ⟨rfl, rfl⟩
theorem um_aw_rows {d b x : Nat} : um_rows (um_aw a d b x) d = va_up (um_rows a d) b (some x) := by
  funext q
  by_cases z : q = b
  · subst z
    rw [va_up_self]
    unfold um_rows
    rw [um_aw_t, if_pos rfl, um_aw_x]
  · rw [va_up_ne _ _ z]
    unfold um_rows
    rw [um_aw_2 (fun y => z y.2), um_aw_1 (fun y => z (by omega))]
/-- a new row -/
theorem um_R.row (hR : um_R E a S h) {d b x : Nat} (hd : um_kind d = 0 ∨ um_kind d = 1 ∨ um_kind d = 3) (hx : h x = none) (hb : a.2 d b = false) (hA : ∀ p q, ¬ (p = d ∧ q = 6 + b) → S'.1 p q = S.1 p q) (hF : ∀ p q, ¬ (p = d ∧ q = 3 + b) → S'.2 p q = S.2 p q) : um_R E (um_aw a d b x) S' (va_up (va_up h x (some (um_row E S' d b))) (a.1 d 2) (some (um_two E (um_aw a d b x) S' d))) := by
  have hk : um_kind d ≠ 4 := by omega
  have hd20 := um_d20 hk
  have old : ∀ d' j', ¬ (d' = d ∧ j' = 3 + b) → ¬ (d' = d ∧ j' = 2) → um_ct E (um_aw a d b x) S' d' j' = um_ct E a S d' j' := by
    intro d' j' n1 n2
    unfold um_ct
    by_cases h20 : d' = 20
    · rw [if_pos h20, if_pos h20]
      unfold um_core
      have e : ∀ y, S'.1 20 y = S.1 20 y := fun y => hA 20 y (fun z => hd20 z.1.symm)
      have e2 : ∀ y, S'.2 20 y = S.2 20 y := fun y => hF 20 y (fun z => hd20 z.1.symm)
      have e3 : ∀ y, (um_aw a d b x).1 20 y = a.1 20 y := fun y => um_aw_1 (fun z => hd20 z.1.symm)
      have e4 : (um_aw a d b x).1 16 0 = a.1 16 0 := um_aw_1 (fun z => by omega)
      have e5 : um_devs (um_aw a d b x) = um_devs a := by
        funext u
        unfold um_devs
        rw [um_aw_1 (fun z => by omega)]
      simp only [e, e2, e3, e4, e5]
    · rw [if_neg h20, if_neg h20]
      by_cases h4 : um_kind d' = 4
      · rw [if_pos h4, if_pos h4]
      · rw [if_neg h4, if_neg h4]
        match j', n1, n2 with
        | 0, _, _ =>
          show some (um_dev (um_aw a d b x) S' d') = some (um_dev a S d')
          unfold um_dev um_tl
          rw [um_aw_1 (show ¬ (d' = d ∧ 1 = 3 + b) by omega), um_aw_1 (show ¬ (d' = d ∧ 2 = 3 + b) by omega), hA d' 4 (by omega), hA d' 0 (by omega), hA d' 1 (by omega), hA d' 5 (by omega), hA d' 2 (by omega), hA d' 3 (by omega)]
        | 1, _, _ => show some _ = some _; rw [hF d' 1 (by omega)]
        | 2, _, n2 =>
          have n : d' ≠ d := fun z => n2 ⟨z, rfl⟩
          show some (um_two E (um_aw a d b x) S' d') = some (um_two E a S d')
          have er : um_rows (um_aw a d b x) d' = um_rows a d' := by
            funext q
            unfold um_rows
            rw [um_aw_2 (fun z => n z.1), um_aw_1 (fun z => n z.1)]
          unfold um_two
          rw [er, hF d' 2 (by omega)]
        | c + 3, n1, _ =>
          have n : ¬ (d' = d ∧ c = b) := fun z => n1 ⟨z.1, by omega⟩
          show (if (um_aw a d b x).2 d' c = true then some (um_row E S' d' c) else none) = (if a.2 d' c = true then some (um_row E S d' c) else none)
          unfold um_row
          rw [um_aw_2 n, hA d' (6 + c) (fun z => n ⟨z.1, by omega⟩), hF d' (3 + c) (fun z => n ⟨z.1, by omega⟩)]
  have hrow : um_ct E (um_aw a d b x) S' d (3 + b) = some (um_row E S' d b) := by rw [um_ct_row hk, um_aw_t, if_pos rfl]
  have htwo : um_ct E (um_aw a d b x) S' d 2 = some (um_two E (um_aw a d b x) S' d) := um_ct_two hk
  have hox : ∀ d' j' e, um_ct E a S d' j' = some e → a.1 d' j' ≠ x := fun d' j' e q => ur_fresh (hR.1 d' j' e q) hx
  have hnr : um_ct E a S d (3 + b) = none := by rw [um_ct_row hk, hb]; rfl
  have ad : ∀ d' j' e, um_ct E (um_aw a d b x) S' d' j' = some e → (d' = d ∧ j' = 3 + b) ∨ (∃ e0, um_ct E a S d' j' = some e0 ∧ (um_aw a d b x).1 d' j' = a.1 d' j') := by
    intro d' j' e q
    by_cases n1 : d' = d ∧ j' = 3 + b
    · exact Or.inl n1
    · refine Or.inr ?_
      by_cases n2 : d' = d ∧ j' = 2
      · exact ⟨um_two E a S d, by rw [n2.1, n2.2]; exact um_ct_two hk, um_aw_1 n1⟩
      · exact ⟨e, (old d' j' n1 n2).symm.trans q, um_aw_1 n1⟩
  have h2x : a.1 d 2 ≠ x := hox d 2 _ (um_ct_two hk)
  refine ⟨fun d' j' e q => ?_, fun d1 j1 d2 j2 e1 e2 q1 q2 z => ?_, fun d' b' q1 q2 => ?_, fun d' b' q1 q2 => ?_⟩
  · by_cases n1 : d' = d ∧ j' = 3 + b
    · rw [n1.1, n1.2] at q ⊢
      rw [hrow] at q
      cases q
      rw [um_aw_x]
      exact (va_up_ne _ _ (Ne.symm h2x)).trans (va_up_self _ _ _)
    · by_cases n2 : d' = d ∧ j' = 2
      · rw [n2.1, n2.2] at q ⊢
        rw [htwo] at q
        cases q
        rw [um_aw_1 (by omega)]
        exact va_up_self _ _ _
      · rw [old d' j' n1 n2] at q
        rw [um_aw_1 n1]
        exact (va_up_ne _ _ (hR.apart q (um_ct_two hk) n2)).trans ((va_up_ne _ _ (hox d' j' e q)).trans (hR.1 d' j' e q))
  · rcases ad d1 j1 e1 q1 with n1 | ⟨x1, y1, w1⟩
    · rcases ad d2 j2 e2 q2 with n2 | ⟨x2, y2, w2⟩
      · exact ⟨n1.1.trans n2.1.symm, n1.2.trans n2.2.symm⟩
      · rw [n1.1, n1.2, um_aw_x, w2] at z
        exact absurd z.symm (hox d2 j2 x2 y2)
    · rcases ad d2 j2 e2 q2 with n2 | ⟨x2, y2, w2⟩
      · rw [n2.1, n2.2, um_aw_x, w1] at z
        exact absurd z (hox d1 j1 x1 y1)
      · rw [w1, w2] at z
        exact hR.2.1 d1 j1 d2 j2 x1 x2 y1 y2 z
  · by_cases n : d' = d ∧ b' = b
    · rw [n.1, n.2, um_aw_t] at q2
      cases q2
    · rw [um_aw_2 n] at q2
      rw [hF d' (3 + b') (fun z => n ⟨z.1, by omega⟩)]
      exact hR.2.2.1 d' b' q1 q2
  · rw [hA d' 2 (by omega)] at q2
    obtain ⟨r1, r2⟩ := hR.2.2.2 d' b' q1 q2
    have n : ¬ (d' = d ∧ b' = b) := fun z => by rw [z.1, z.2, hb] at r1; cases r1
    rw [um_aw_2 n, hA d' (6 + b') (fun z => n ⟨z.1, by omega⟩)]
    exact ⟨r1, r2⟩
end UMW
