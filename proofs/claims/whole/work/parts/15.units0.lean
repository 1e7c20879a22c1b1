/-! pure words: tapes, disks, the reader -/
def um_fT (op ps : Int32) : Int32 := if op = 0 then 0 else if ps < 64 then 0 else 6
def um_pos (ps m : Int32) : Int32 := (if (if ps.toInt64 + m.toInt64 < 64 then ps.toInt64 + m.toInt64 else 64) < 0 then 0 else (if ps.toInt64 + m.toInt64 < 64 then ps.toInt64 + m.toInt64 else 64)).toInt32
def um_posT (ps m : Int32) : Int32 := if m = 0 then 0 else um_pos ps m
def um_fK (op m x : Int32) : Int32 := if op = 0 then (if m = 0 then (if x < 0 then 6 else if x < 64 then 0 else 6) else 5) else (if x < 0 then 6 else if x < 64 then 0 else 6)
def um_hasR (x : Int32) : Bool := if 100 ≤ x then false else true
def um_fR (op x : Int32) : Int32 := if op = 1 then (if x = 0 then 6 else 0) else 5
theorem um_wrote.keep {E : ur_Ev} {h h2 : ur_M} {ql k x : Nat} {f : Nat → Option Nat} {r : Nat → Int32} {e : va_E} (hw : um_wrote E h ql f k r h2) (hx : h x = some e) (n1 : x ≠ ql) (n2 : ∀ a, f k = some a → x ≠ a) : h2 x = some e := by
  rcases hw with ⟨a, ha, rfl⟩ | ⟨-, a, ha, rfl⟩
  · exact (va_up_ne _ _ (n2 a ha)).trans hx
  · exact (va_up_ne _ _ n1).trans ((va_up_ne _ _ (ur_fresh hx ha)).trans hx)
theorem um_slot {a b : Nat} (ha : a < 100) (hb : b < 100) : ((nI a + nI b) - (nI a + nI b) / 100 * 100) * 16 = nI ((a + b) % 100 * 16) := by
  rw [nI_add, show (100 : Int32) = nI 100 from rfl, pk_rem (by omega) (by omega) (by omega), show (16 : Int32) = nI 16 from rfl, pk_mul]
theorem um_slot1 {a : Nat} : nI a * 16 = nI (a * 16) := by
  rw [show (16 : Int32) = nI 16 from rfl, pk_mul]
theorem um_next1 {a : Nat} (ha : a < 100) : (nI a + 1) - (nI a + 1) / 100 * 100 = nI ((a + 1) % 100) := by
  rw [nI_1, show (100 : Int32) = nI 100 from rfl, pk_rem (by omega) (by omega) (by omega)]
/-- k words of a card laid into the ring at place r -/
def um_acc (cs bs : Nat → Int32) (n r k : Nat) : Nat → Int32 := fun j => if r ≤ j ∧ j < r + k then um_wAt bs n (nI (j - r) * 5) else cs j
theorem um_acc_0 (cs bs : Nat → Int32) (n r : Nat) : um_acc cs bs n r 0 = cs := by
  funext j
  unfold um_acc
  rw [if_neg (by omega)]
theorem um_acc_succ (cs bs : Nat → Int32) (n r k : Nat) : upd (um_acc cs bs n r k) (r + k) (um_wAt bs n (nI k * 5)) = um_acc cs bs n r (k + 1) := by
  funext j
  unfold upd um_acc
  by_cases h : j = r + k
  · subst h
    rw [if_pos rfl, if_pos (by omega), show r + k - r = k by omega]
  · rw [if_neg h]
    by_cases h2 : r ≤ j ∧ j < r + k
    · rw [if_pos h2, if_pos (by omega)]
    · rw [if_neg h2, if_neg (by omega)]
/-- k words of a card read -/
def um_rd (cs o : Nat → Int32) (r k : Nat) : Nat → Int32 := fun j => if j < k then cs (r + j) else o j
theorem um_rd_0 (cs o : Nat → Int32) (r : Nat) : um_rd cs o r 0 = o := by
  funext j
  unfold um_rd
  rw [if_neg (by omega)]
theorem um_rd_succ (cs o : Nat → Int32) (r k : Nat) : upd (um_rd cs o r k) k (cs (r + k)) = um_rd cs o r (k + 1) := by
  funext j
  unfold upd um_rd
  by_cases h : j = k
  · subst h
    rw [if_pos rfl, if_pos (by omega)]
  · rw [if_neg h]
    by_cases h2 : j < k
    · rw [if_pos h2, if_pos (by omega)]
    · rw [if_neg h2, if_neg (by omega)]
theorem um_ix2 {r k : Nat} (h : r + k < 2 ^ 31) : (nI r + nI k).toNatClampNeg = r + k := by rw [nI_add, nI_clamp h]
