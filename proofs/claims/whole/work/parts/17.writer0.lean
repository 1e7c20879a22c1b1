/-! pure words: writers -/
def um_fW (op hp m : Int32) : Int32 := if op = 2 then 0 else if op = 0 then (if hp = 0 then 5 else if m = 0 then 0 else 5) else 5
def um_len (g : Nat → Int32) (a : Int32) : Nat → Nat
  | 0 => 0
  | n + 1 => if um_byte g a (nI (n + 1) - 1) = 0 then um_len g a n else n + 1
theorem um_len_le (g : Nat → Int32) (a : Int32) (n : Nat) : um_len g a n ≤ n := by
  induction n with
  | zero => exact Nat.le_refl 0
  | succ n ih =>
    rw [um_len]
    by_cases h : um_byte g a (nI (n + 1) - 1) = 0
    · rw [if_pos h]; omega
    · rw [if_neg h]; omega
theorem um_w5 {n : Nat} (h : 0 < n) (h2 : n < 2 ^ 20) : (if 0 < nI n then nI n else 0) * 5 = nI (n * 5) := by
  rw [if_pos (by rw [show (0 : Int32) = nI 0 from rfl, nI_ltI (by omega) (by omega)]; exact h), show (5 : Int32) = nI 5 from rfl, pk_mul]
def um_lb (g : Nat → Int32) (a : Int32) (j : Nat) : Int32 := vp_nar .byte (um_letter (um_byte g a (nI j))).toInt8.toInt32
/-- i letters of a line -/
def um_line (g : Nat → Int32) (a : Int32) (i : Nat) : Nat → Int32 := fun j => if j < i then um_lb g a j else 0
theorem um_line_0 (g : Nat → Int32) (a : Int32) : um_line g a 0 = fun _ => 0 := by
  funext j
  unfold um_line
  rw [if_neg (by omega)]
theorem um_line_succ (g : Nat → Int32) (a : Int32) (i : Nat) : upd (um_line g a i) i (um_lb g a i) = um_line g a (i + 1) := by
  funext j
  unfold upd um_line
  by_cases h : j = i
  · subst h
    rw [if_pos rfl, if_pos (by omega)]
  · rw [if_neg h]
    by_cases h2 : j < i
    · rw [if_pos h2, if_pos (by omega)]
    · rw [if_neg h2, if_neg (by omega)]
def um_ff : Nat → Int32 := upd (fun _ => 0) 0 (vp_nar .byte 12)
/-- the lines: k rows are there, of lengths G and letters B -/
def um_linesAt (E : ur_Ev) (h : ur_M) (f : Nat → Option Nat) (G : Nat → Nat) (B : Nat → Nat → Int32) (k : Nat) : Prop := ∀ j, j < k → ∃ a, f j = some a ∧ h a = some (.inl (E.1 1, G j, .inl (B j))) ∧ G j ≤ 120
def um_lAt (G : Nat → Nat) (B : Nat → Nat → Int32) (k : Nat) (x i : Int32) : Int32 := if x < 0 then -1 else if nI k ≤ x then -1 else if x < 300 then (if i < 0 then -1 else if i < nI (G x.toNatClampNeg) then B x.toNatClampNeg i.toNatClampNeg else -1) else -1
