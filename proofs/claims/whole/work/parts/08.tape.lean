/-! pure words: the tape of bytes -/
theorem ur_alt {h : ur_M} {a b : Nat} {x1 y1 x2 y2 : Option va_E} (n : a ≠ b) : va_up (va_up (va_up (va_up h a x1) b y1) a x2) b y2 = va_up (va_up h a x2) b y2 := by
  rw [ur_sw n, bx_uu]
def um_sb (v k : Int32) : Int32 := vp_nar .byte (v >>> (k &&& 31)).toInt8.toInt32
/-- four bytes behind place n -/
def um_app (b : Nat → Int32) (n : Nat) (v : Int32) : Nat → Int32 := upd (upd (upd (upd b n (um_sb v 24)) (n + 1) (um_sb v 16)) (n + 1 + 1) (um_sb v 8)) (n + 1 + 1 + 1) (um_sb v 0)
def um_room (x : Int32) : Bool := if 400 - 20 < x then false else true
def um_cutok (x n : Int32) : Bool := if n < 0 then false else if n ≤ x then true else false
def um_cutn (x n : Int32) : Int32 := if n < 0 then x else if n ≤ x then n else x
def um_cAt (b : Nat → Int32) (n : Nat) (i : Int32) : Int32 := if i < 0 then 0 else if i < nI n then um_code (b i.toNatClampNeg &&& 255) else 0
/-- five letters from place i on, as a word -/
def um_wAt (b : Nat → Int32) (n : Nat) (i : Int32) : Int32 := ((((((0 : Int32) <<< ((6 : Int32) &&& 31)) ||| um_cAt b n (i + 0)) <<< ((6 : Int32) &&& 31) ||| um_cAt b n (i + 1)) <<< ((6 : Int32) &&& 31) ||| um_cAt b n (i + 2)) <<< ((6 : Int32) &&& 31) ||| um_cAt b n (i + 3)) <<< ((6 : Int32) &&& 31) ||| um_cAt b n (i + 4)
