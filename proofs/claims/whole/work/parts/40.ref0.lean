/-! the reference: pure words -/
def fo_in (v lo hi : Int32) : Bool := if v < lo then false else if hi < v then false else true
def fo_told (x : Int32) : Int32 := if 1073741824 ≤ x then (if x &&& 1073741823 = 0 then (-2147483648) else -(x &&& 1073741823)) else x &&& 1073741823
def fo_pl (u : Int32) : Int32 := if fo_in u 0 3 = true then u else if fo_in u 8 9 = true then u - 4 else if fo_in u 16 19 = true then u - 10 else (-1)
def fo_ws (p : Int32) : Int32 := if 6 ≤ p then (if p = 8 then 24 else if p = 9 then 14 else 16) else 100
def fo_tm (p : Int32) : Int32 := if 4 ≤ p then (if 6 ≤ p then (if p = 6 then 1000 else if p = 7 then 1500 else if p = 8 then 750 else 900) else 400) else 500
def fo_can (p op m : Int32) : Bool := if 4 ≤ p then (if 6 ≤ p then (if p = 6 then (if op = 1 then true else false) else if op = 2 then true else if p = 8 then (if op = 0 then (if m = 0 then true else false) else false) else false) else (if 0 < op then true else if m = 0 then true else false)) else true
theorem fo_ne {L : List Nat} (hd : L.Nodup) (i j : Nat) {x y : Nat} (hi : L[i]? = some x) (hj : L[j]? = some y) (n : i ≠ j) : x ≠ y := by
  intro z
  obtain ⟨h1, e1⟩ := List.getElem?_eq_some_iff.mp hi
  obtain ⟨h2, e2⟩ := List.getElem?_eq_some_iff.mp hj
  exact n ((List.getElem_inj hd).mp (by rw [e1, e2, z]))
def fo_ah (J : Nat → Int64) (G : Nat → Int32) (u v : Int32) : Bool := if v < 0 then true else if lg_cmp (J u.toNatClampNeg) (J v.toNatClampNeg) < 0 then true else if lg_cmp (J u.toNatClampNeg) (J v.toNatClampNeg) = 0 then (if G v.toNatClampNeg ≤ G u.toNatClampNeg then false else true) else false
