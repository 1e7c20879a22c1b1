/-! the reference: a line is written -/
theorem fo_7 {l : Nat} : nI (7 + l) - 7 = nI l := by rw [show (7 : Int32) = nI 7 from rfl, pk_sub (by omega), show 7 + l - 7 = l by omega]
theorem fo_300l {l k : Nat} : 300 * nI l + nI k = nI (300 * l + k) := by rw [show (300 : Int32) = nI 300 from rfl, pk_mul, nI_add]
theorem fo_120k {l k : Nat} : 120 * nI l + nI k = nI (120 * l + k) := by rw [show (120 : Int32) = nI 120 from rfl, pk_mul, nI_add]
def fo_W (l : Nat) : Nat := if l = 1 then 24 else if l = 2 then 14 else 16
theorem fo_W_e : ∀ l, l < 3 → 5 * fo_ws (nI (7 + l)) = nI (5 * fo_W l) ∧ fo_W l ≤ 24 := by decide
theorem fo_d5 {k : Nat} (h : k < 2 ^ 20) : nI k / 5 = nI (k / 5) := by rw [show (5 : Int32) = nI 5 from rfl, pk_div (by omega) (by decide) (by decide)]
def fo_wc (al me : Nat → Int32) (mn k : Nat) : Int32 := fo_lt al ((me (mn + k / 5) >>> ((24 - 6 * (nI k - nI k / 5 * 5)) &&& 31)) &&& 63)
def fo_wl (g al me : Nat → Int32) (mn L : Nat) : Nat → Nat → Int32
  | 0 => g
  | k + 1 => upd (fo_wl g al me mn L k) (120 * L + k) (vp_nar .byte (fo_wc al me mn k).toInt8.toInt32)
def fo_wn (al me : Nat → Int32) (mn : Nat) : Nat → Int32
  | 0 => 0
  | k + 1 => if fo_wc al me mn k = 32 then fo_wn al me mn k else nI k + 1
