/-! the reference: k places copied -/
def fo_cp (dst src : Nat → Int32) (r s k : Nat) : Nat → Int32 := fun j => if r ≤ j ∧ j < r + k then src (s + (j - r)) else dst j
theorem fo_cp_0 (dst src : Nat → Int32) (r s : Nat) : fo_cp dst src r s 0 = dst := by
  funext j
  unfold fo_cp
  rw [if_neg (by omega)]
theorem fo_cp_succ (dst src : Nat → Int32) (r s k : Nat) : upd (fo_cp dst src r s k) (r + k) (src (s + k)) = fo_cp dst src r s (k + 1) := by
  funext j
  unfold upd fo_cp
  by_cases h : j = r + k
  · subst h
    rw [if_pos rfl, if_pos (show r ≤ r + k ∧ r + k < r + (k + 1) by omega), show r + k - r = k by omega]
  · rw [if_neg h]
    by_cases h2 : r ≤ j ∧ j < r + k
    · rw [if_pos h2, if_pos (show r ≤ j ∧ j < r + (k + 1) by omega)]
    · rw [if_neg h2, if_neg (show ¬ (r ≤ j ∧ j < r + (k + 1)) by omega)]
theorem fo_from {pn bn : Nat} : 100 * (64 * nI pn + nI bn) = nI (100 * (64 * pn + bn)) := by
  rw [show (64 : Int32) = nI 64 from rfl, show (100 : Int32) = nI 100 from rfl, pk_mul, nI_add, pk_mul]
theorem fo_100 {pn k : Nat} : 100 * nI pn + nI k = nI (100 * pn + k) := by
  rw [show (100 : Int32) = nI 100 from rfl, pk_mul, nI_add]
