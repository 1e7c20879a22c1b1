/-! the reference: fault, unit, block -/
def fo_fn (st : Nat → Int32) (cds pp op x : Int32) : Int32 := if 4 ≤ pp then (if 6 ≤ pp then (if pp = 6 then (if cds = 0 then 6 else 0) else 0) else (if fo_in x 0 63 = true then 0 else 6)) else (if op ≤ 0 then 0 else if st pp.toNatClampNeg = 64 then 6 else 0)
def fo_fr (st : Nat → Int32) (cds pp op m x : Int32) : Int32 := if pp < 0 then 5 else if fo_can pp op m = true then fo_fn st cds pp op x else 5
def fo_flt (st : Nat → Int32) (cds pp op m x : Int32) : Int32 := if fo_in op 0 2 = true then (if 0 ≤ pp then (if op ≤ 0 then fo_fr st cds pp op m x else if fo_in m 0 (4000 - fo_ws pp) = true then fo_fr st cds pp op m x else 2) else (if op ≤ 0 then fo_fr st cds pp op m x else if fo_in m 0 (4000 - 1) = true then fo_fr st cds pp op m x else 2)) else 1
def fo_un (st li : Nat → Int32) (cds p : Int32) : Int32 := if p < 0 then -1 else if p = 4 then -1 else if p = 5 then -1 else if 4 ≤ p then (if p = 6 then cds else li (p - 7).toNatClampNeg) else st p.toNatClampNeg
theorem fo_un_in {p : Int32} (h : vp_in p 10) (h4 : 4 ≤ p) (n4 : ¬ p = 4) (n5 : ¬ p = 5) (n6 : ¬ p = 6) : vp_in (p - 7) 3 := by
  obtain ⟨j, hj, rfl⟩ := vp_in_of h (by decide)
  have a := (nI_leI (a := 4) (by decide) (by omega)).mp h4
  have a4 : j ≠ 4 := fun z => n4 (by rw [z]; rfl)
  have a5 : j ≠ 5 := fun z => n5 (by rw [z]; rfl)
  have a6 : j ≠ 6 := fun z => n6 (by rw [z]; rfl)
  rw [show (7 : Int32) = nI 7 from rfl, pk_sub (by omega)]
  exact vp_in_nI (by omega) (by decide)
def fo_bl (g : Nat → Int32) (p b i : Int32) : Int32 := if fo_in p 0 5 = true then (if fo_in b 0 63 = true then (if fo_in i 0 99 = true then fo_told (g (100 * (64 * p + b) + i).toNatClampNeg) else 2147483647) else 2147483647) else 2147483647
theorem fo_bl_in {p b i : Int32} (h1 : fo_in p 0 5 = true) (h2 : fo_in b 0 63 = true) (h3 : fo_in i 0 99 = true) : vp_in (100 * (64 * p + b) + i) 38400 := by
  obtain ⟨a0, a1, -⟩ := fo_in_iff (n := 5) (by decide) h1
  obtain ⟨b0, b1, -⟩ := fo_in_iff (n := 63) (by decide) h2
  obtain ⟨c0, c1, -⟩ := fo_in_iff (n := 99) (by decide) h3
  obtain ⟨x, hx, rfl⟩ := nI_of a0
  obtain ⟨y, hy, rfl⟩ := nI_of b0
  obtain ⟨z, hz, rfl⟩ := nI_of c0
  have e1 := (nI_ltI hx (by decide)).mp a1
  have e2 := (nI_ltI hy (by decide)).mp b1
  have e3 := (nI_ltI hz (by decide)).mp c1
  rw [show (64 : Int32) = nI 64 from rfl, show (100 : Int32) = nI 100 from rfl, pk_mul, nI_add, pk_mul, nI_add]
  exact vp_in_nI (by omega) (by decide)
