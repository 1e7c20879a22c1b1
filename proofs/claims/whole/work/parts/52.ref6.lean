/-! the reference: feed -/
def fo_pk (v1 v2 v3 v4 v5 x : Int32) : Int32 := if 4 ≤ x then (if 8 ≤ x then (if 12 ≤ x then (if 16 ≤ x then v5 else v4) else v3) else v2) else v1
def fo_fdF (g : Nat → Int32) (n : Nat) (v1 v2 v3 v4 v5 : Int32) : Nat → Nat → Int32
  | 0 => g
  | k + 1 => upd (fo_fdF g n v1 v2 v3 v4 v5 k) (n + k) ((fo_pk v1 v2 v3 v4 v5 (nI k) >>> ((24 - 8 * (nI k - nI k / 4 * 4)) &&& 31)) &&& 255)
theorem fo_20 {n : Nat} (hn : n ≤ 400) : (nI n + 20 ≤ 400) ↔ n ≤ 380 := by
  rw [show (20 : Int32) = nI 20 from rfl, nI_add, show (400 : Int32) = nI 400 from rfl, nI_leI (by omega) (by decide)]
  omega
