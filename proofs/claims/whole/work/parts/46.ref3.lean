/-! the reference: letter, card -/
def fo_ln (u k : Int32) : Int32 := 300 * (u - 17) + k
def fo_lr (li le lt : Nat → Int32) (u k i : Int32) : Int32 := if fo_in u 17 19 = true then (if k < 0 then -1 else if li (u - 17).toNatClampNeg ≤ k then -1 else if k < 300 then (if i < 0 then -1 else if le (300 * (u - 17) + k).toNatClampNeg ≤ i then -1 else lt (120 * (300 * (u - 17) + k) + i).toNatClampNeg) else -1) else -1
theorem fo_w3 {u : Int32} (h : fo_in u 17 19 = true) : ∃ j : Nat, j < 3 ∧ u - 17 = nI j := by
  unfold fo_in at h
  by_cases z1 : u < 17
  · rw [if_pos z1] at h; cases h
  · rw [if_neg z1] at h
    by_cases z2 : 19 < u
    · rw [if_pos z2] at h; cases h
    · have h0 : ¬ u < 0 := fun z => z1 (Int32.lt_trans z (by decide))
      obtain ⟨j, hj, rfl⟩ := nI_of h0
      have a1 : 17 ≤ j := Nat.not_lt.mp (fun z => z1 (nI_lt (b := 17) z (by omega)))
      have a2 : j ≤ 19 := Nat.not_lt.mp (fun z => z2 (nI_lt (a := 19) z hj))
      exact ⟨j - 17, by omega, by rw [show (17 : Int32) = nI 17 from rfl, pk_sub a1]⟩
theorem fo_lr_1 {u : Int32} (h : fo_in u 17 19 = true) : vp_in (u - 17) 3 := by
  obtain ⟨j, hj, e⟩ := fo_w3 h
  rw [e]
  exact vp_in_nI hj (by decide)
theorem fo_lr_2 {u k : Int32} (h : fo_in u 17 19 = true) (h0 : ¬ k < 0) (h1 : k < 300) : ∃ j : Nat, j < 900 ∧ 300 * (u - 17) + k = nI j := by
  obtain ⟨j, hj, e⟩ := fo_w3 h
  obtain ⟨x, hx, rfl⟩ := nI_of h0
  have := (nI_ltI (b := 300) hx (by decide)).mp h1
  exact ⟨300 * j + x, by omega, by rw [e, show (300 : Int32) = nI 300 from rfl, pk_mul, nI_add]⟩
theorem fo_lr_3 {u k i : Int32} {le : Nat → Int32} (hle : ∀ j, j < 900 → le j ≤ 120) (h : fo_in u 17 19 = true) (h0 : ¬ k < 0) (h1 : k < 300) (i0 : ¬ i < 0) (i1 : ¬ le (300 * (u - 17) + k).toNatClampNeg ≤ i) : vp_in (120 * (300 * (u - 17) + k) + i) 108000 := by
  obtain ⟨j, hj, e⟩ := fo_lr_2 h h0 h1
  rw [e] at i1 ⊢
  rw [nI_clamp (by omega)] at i1
  obtain ⟨x, hx, rfl⟩ := nI_of i0
  have q : nI x < 120 := Int32.lt_of_lt_of_le (Int32.not_le.mp i1) (hle j hj)
  have := (nI_ltI (b := 120) hx (by decide)).mp q
  rw [show (120 : Int32) = nI 120 from rfl, pk_mul, nI_add]
  exact vp_in_nI (by omega) (by decide)
def fo_cb (cb tp : Nat → Int32) (n r k : Nat) : Nat → Int32 := fun j => if r ≤ j ∧ j < r + k then (if j - r < n then tp (j - r) else 32) else cb j
theorem fo_cb_0 (cb tp : Nat → Int32) (n r : Nat) : fo_cb cb tp n r 0 = cb := by
  funext j
  unfold fo_cb
  rw [if_neg (by omega)]
theorem fo_cb_succ (cb tp : Nat → Int32) (n r k : Nat) : upd (fo_cb cb tp n r k) (r + k) (if k < n then tp k else 32) = fo_cb cb tp n r (k + 1) := by
  funext j
  unfold upd fo_cb
  by_cases h : j = r + k
  · subst h
    rw [if_pos rfl, if_pos (show r ≤ r + k ∧ r + k < r + (k + 1) by omega), show r + k - r = k by omega]
  · rw [if_neg h]
    by_cases h2 : r ≤ j ∧ j < r + k
    · rw [if_pos h2, if_pos (show r ≤ j ∧ j < r + (k + 1) by omega)]
    · rw [if_neg h2, if_neg (show ¬ (r ≤ j ∧ j < r + (k + 1)) by omega)]
theorem fo_80 {cn k : Nat} : 80 * nI cn + nI k = nI (80 * cn + k) := by rw [show (80 : Int32) = nI 80 from rfl, pk_mul, nI_add]
