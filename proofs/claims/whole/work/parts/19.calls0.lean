/-! pure words: feed, set, fill, card -/
theorem um_room_le {n : Nat} (hn : n ≤ 400) (h : um_room (nI n) = true) : n ≤ 380 := by
  unfold um_room at h
  by_cases q : (400 - 20 : Int32) < nI n
  · rw [if_pos q] at h; cases h
  · exact Nat.not_lt.mp (fun z => q (by show nI 380 < nI n; exact nI_lt z (by omega)))
def um_fd (b : Nat → Int32) (n : Nat) (v1 v2 v3 v4 v5 : Int32) : Nat → Int32 := um_app (um_app (um_app (um_app (um_app b n v1) (n + 1 + 1 + 1 + 1) v2) (n + 1 + 1 + 1 + 1 + 1 + 1 + 1 + 1) v3) (n + 1 + 1 + 1 + 1 + 1 + 1 + 1 + 1 + 1 + 1 + 1 + 1) v4) (n + 1 + 1 + 1 + 1 + 1 + 1 + 1 + 1 + 1 + 1 + 1 + 1 + 1 + 1 + 1 + 1) v5
def um_fdb (b : Nat → Int32) (n : Nat) (v1 v2 v3 v4 v5 : Int32) : Nat → Int32 := if um_room (nI n) = true then um_fd b n v1 v2 v3 v4 v5 else b
def um_fdn (n : Nat) : Nat := if um_room (nI n) = true then n + 20 else n
def um_setok (a v : Int32) : Bool := if um_holds a 1 = true then (if v ≤ (-1073741824) then false else if v < 1073741824 then true else false) else false
def um_setv (v z : Int32) : Int32 := if z = 0 then v else if v = 0 then (-2147483648) else v
def um_set (g : Nat → Int32) (a v z : Int32) : Nat → Int32 := if um_setok a v = true then um_put g a (um_setv v z) else g
def um_fillok (a n : Int32) : Bool := if n < 1 then false else if 200 < n then false else um_holds a n
def um_fillF (g : Nat → Int32) (a sd : Int32) : Nat → Nat → Int32
  | 0 => g
  | k + 1 => um_put (um_fillF g a sd k) (a + nI k) ((sd + 12345 * nI k) &&& 1073741823)
def um_fill (g : Nat → Int32) (a n sd : Int32) : Nat → Int32 := if um_fillok a n = true then um_fillF g a sd n.toNatClampNeg else g
theorem um_200 {n : Int32} (h1 : ¬ n < 1) (h2 : ¬ 200 < n) : ∃ j : Nat, j ≤ 200 ∧ n = nI j := by
  have h0 : ¬ n < 0 := fun z => h1 (Int32.lt_trans z (by decide))
  obtain ⟨j, hj, rfl⟩ := nI_of h0
  exact ⟨j, Nat.not_lt.mp (fun z => h2 (by show nI 200 < nI j; exact nI_lt z hj)), rfl⟩
theorem um_hasR_t {b : Nat} (h : b < 100) : um_hasR (nI b) = true := if_neg (nI_ge (b := 100) h (by decide))
theorem um_hasR_f : um_hasR (nI 100) = false := by decide
