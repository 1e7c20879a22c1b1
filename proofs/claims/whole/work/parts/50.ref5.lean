/-! the reference: where a tape stands; a form feed -/
def fo_a (s m : Int32) : Int64 := if m = 0 then 0 else s.toInt64 + m.toInt64
def fo_ps (s m : Int32) : Int32 := if 0 ≤ lg_cmp (fo_a s m) 0 then (if lg_cmp (fo_a s m) 64 ≤ 0 then (fo_a s m).toInt32 else 64) else 0
theorem fo_300 {kn : Nat} : 300 + nI kn = nI (300 + kn) := by rw [show (300 : Int32) = nI 300 from rfl, nI_add]
theorem fo_120 {l : Nat} : 120 * nI l = nI (120 * l) := by rw [show (120 : Int32) = nI 120 from rfl, pk_mul]
