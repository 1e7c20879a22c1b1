/-! pure words: truth values, words that lie in memory -/
def um_b (b : Bool) : Int32 := if b = true then 1 else 0
theorem um_b_nar (b : Bool) : narrow .boolean (.int (um_b b)) = .int (um_b b) := by cases b <;> rfl
theorem um_b_fit (b : Bool) : fits .boolean (.int (um_b b)) = true := by cases b <;> rfl
theorem um_b0 {b : Bool} {r : Int32} (hr : r = um_b b) (h : r = 0) : b = false := by
  cases b with
  | false => rfl
  | true => rw [hr] at h; exact absurd h (by decide)
theorem um_b1 {b : Bool} {r : Int32} (hr : r = um_b b) (h : ¬ r = 0) : b = true := by
  cases b with
  | true => rfl
  | false => rw [hr] at h; exact absurd rfl h
/-- n words from an address on lie in memory -/
def um_holds (a n : Int32) : Bool := if a < 0 then false else if n < 0 then false else if 4000 < n then false else if 4000 - n < a then false else true
theorem um_holds_of {a n : Int32} (h : um_holds a n = true) : ¬ a < 0 ∧ ¬ n < 0 ∧ ¬ 4000 < n ∧ ¬ 4000 - n < a := by
  unfold um_holds at h
  by_cases h1 : a < 0
  · rw [if_pos h1] at h; cases h
  · rw [if_neg h1] at h
    by_cases h2 : n < 0
    · rw [if_pos h2] at h; cases h
    · rw [if_neg h2] at h
      by_cases h3 : 4000 < n
      · rw [if_pos h3] at h; cases h
      · rw [if_neg h3] at h
        by_cases h4 : 4000 - n < a
        · rw [if_pos h4] at h; cases h
        · exact ⟨h1, h2, h3, h4⟩
theorem um_holds_nat {a : Int32} {n : Nat} (hn : n ≤ 4000) (h : um_holds a (nI n) = true) : ∃ j : Nat, a = nI j ∧ j + n ≤ 4000 := by
  obtain ⟨h1, -, -, h4⟩ := um_holds_of h
  obtain ⟨j, hj, rfl⟩ := nI_of h1
  refine ⟨j, rfl, ?_⟩
  rw [show (4000 : Int32) = nI 4000 from rfl, pk_sub hn, nI_ltI (by omega) (by omega)] at h4
  omega
theorem um_holds_1 {a : Int32} (h : um_holds a 1 = true) : ∃ j : Nat, a = nI j ∧ j < 4000 := by
  obtain ⟨j, e, hj⟩ := um_holds_nat (n := 1) (by omega) h
  exact ⟨j, e, by omega⟩
theorem um_holds_in {a : Int32} (h : um_holds a 1 = true) : vp_in a 4000 := by
  obtain ⟨j, rfl, hj⟩ := um_holds_1 h
  exact vp_in_nI hj (by omega)
theorem um_holds_iff {j n : Nat} (hj : j < 2 ^ 31) (hn : n ≤ 4000) : um_holds (nI j) (nI n) = decide (j + n ≤ 4000) := by
  have e1 : ¬ nI j < 0 := nI_pos hj
  have e2 : ¬ nI n < 0 := nI_pos (by omega)
  have e3 : ¬ (4000 : Int32) < nI n := by
    rw [show (4000 : Int32) = nI 4000 from rfl, nI_ltI (by omega) (by omega)]
    omega
  have e4 : ((4000 : Int32) - nI n < nI j) ↔ 4000 - n < j := by
    rw [show (4000 : Int32) = nI 4000 from rfl, pk_sub hn, nI_ltI (by omega) hj]
  unfold um_holds
  rw [if_neg e1, if_neg e2, if_neg e3]
  by_cases q : j + n ≤ 4000
  · rw [decide_eq_true q, if_neg (fun z => by have := e4.mp z; omega)]
  · rw [decide_eq_false q, if_pos (e4.mpr (by omega))]
/-- the word at an address -/
def um_at (g : Nat → Int32) (a : Int32) : Int32 := if um_holds a 1 = true then g a.toNatClampNeg else 2147483647
def um_put (g : Nat → Int32) (a v : Int32) : Nat → Int32 := if um_holds a 1 = true then upd g a.toNatClampNeg v else g
theorem um_put_t {g : Nat → Int32} {a v : Int32} (k : um_holds a 1 = true) : um_put g a v = upd g a.toNatClampNeg v := if_pos k
theorem um_put_f {g : Nat → Int32} {a v : Int32} (k : um_holds a 1 = false) : um_put g a v = g := if_neg (by rw [k]; decide)
/-- n words of memory into a row, a row into memory -/
def um_cin (g f : Nat → Int32) (a : Int32) (n : Nat) : Nat → Int32 := if um_holds a (nI n) = true then va_cpy g f a.toNatClampNeg 0 n else f
def um_cout (g f : Nat → Int32) (a : Int32) (n : Nat) : Nat → Int32 := if um_holds a (nI n) = true then va_cpy f g 0 a.toNatClampNeg n else g
theorem um_cin_t {g f : Nat → Int32} {a : Int32} {n : Nat} (k : um_holds a (nI n) = true) : um_cin g f a n = va_cpy g f a.toNatClampNeg 0 n := if_pos k
theorem um_cin_f {g f : Nat → Int32} {a : Int32} {n : Nat} (k : um_holds a (nI n) = false) : um_cin g f a n = f := if_neg (by rw [k]; decide)
theorem um_cout_t {g f : Nat → Int32} {a : Int32} {n : Nat} (k : um_holds a (nI n) = true) : um_cout g f a n = va_cpy f g 0 a.toNatClampNeg n := if_pos k
theorem um_cout_f {g f : Nat → Int32} {a : Int32} {n : Nat} (k : um_holds a (nI n) = false) : um_cout g f a n = g := if_neg (by rw [k]; decide)
def um_size (w : Int32) : Int32 := if w = (-2147483648) then 0 else if 0 ≤ w then w else 0 - w
/-- byte k of the words from an address on -/
def um_byte (g : Nat → Int32) (a k : Int32) : Int32 := (um_size (um_at g (a + k / 5)) >>> (((4 - (k - k / 5 * 5)) * 6) &&& 31)) &&& 63
/-- the letters -/
def um_let : List Int32 := [32, 65, 66, 67, 68, 69, 70, 71, 72, 73, 126, 74, 75, 76, 77, 78, 79, 80, 81, 82, 91, 35, 83, 84, 85, 86, 87, 88, 89, 90, 48, 49, 50, 51, 52, 53, 54, 55, 56, 57, 46, 44, 40, 41, 43, 45, 42, 47, 61, 36, 60, 62, 64, 59, 58, 39]
def um_letter (x : Int32) : Int32 := if x < 0 then 63 else if x < 56 then um_let.getD x.toNatClampNeg 0 else 63
def um_great (x : Int32) : Int32 := if x < 97 then x else if 122 < x then x else x - 97 + 65
/-- where a letter stands from place i on, n places are left -/
def um_find (x : Int32) : Nat → Nat → Int32
  | 0, _ => -1
  | n + 1, i => if um_let.getD i 0 = x then nI i else um_find x n (i + 1)
def um_code (x : Int32) : Int32 := if 0 < um_find ((um_great x).toUInt32 % 65536).toInt32 56 0 then um_find ((um_great x).toUInt32 % 65536).toInt32 56 0 else 0
