/-! words as the class and the reference have them: pure -/
theorem rl_wN (w : Int32) : w.toInt = (w.toBitVec.toNat : Int) ∨ w.toInt = (w.toBitVec.toNat : Int) - 4294967296 := by
  have h := BitVec.toInt_eq_toNat_cond w.toBitVec
  have e : w.toInt = w.toBitVec.toInt := rfl
  rw [e, h]
  by_cases q : 2 * w.toBitVec.toNat < 2 ^ 32
  · rw [if_pos q]; exact Or.inl rfl
  · rw [if_neg q]; exact Or.inr rfl
theorem rl_and30 (w : Int32) : w &&& 1073741823 = nI (w.toBitVec.toNat % 2 ^ 30) := pk_and w 30 (by decide)
theorem rl_neg {z : Nat} (h0 : 0 < z) (h : z < 2 ^ 30) : ¬ (-nI z = (-2147483648 : Int32)) ∧ ¬ 0 ≤ -nI z ∧ (0 : Int32) - (-nI z) = nI z := by
  have e : (-nI z).toInt = -(z : Int) := sb_negT (by omega)
  refine ⟨fun q => ?_, fun q => ?_, ?_⟩
  · rw [q] at e
    have : ((-2147483648 : Int32)).toInt = -2147483648 := by decide
    omega
  · have := Int32.le_iff_toInt_le.mp q
    rw [e] at this
    have e0 : (0 : Int32).toInt = 0 := by decide
    omega
  · simp
theorem rl_small {z : Nat} (h : z < 2 ^ 30) : ¬ (nI z = (-2147483648 : Int32)) ∧ 0 ≤ nI z := by
  refine ⟨fun q => ?_, nI_pos' (by omega)⟩
  have e := nI_toInt (n := z) (by omega)
  rw [q] at e
  have : ((-2147483648 : Int32)).toInt = -2147483648 := by decide
  omega
theorem rl_size (w : Int32) : um_size (fo_told w) = w &&& 1073741823 := by
  have hz : w.toBitVec.toNat % 2 ^ 30 < 2 ^ 30 := Nat.mod_lt _ (by decide)
  unfold fo_told
  rw [rl_and30]
  generalize w.toBitVec.toNat % 2 ^ 30 = z at hz
  unfold um_size
  by_cases c : (1073741824 : Int32) ≤ w
  · rw [if_pos c]
    by_cases c0 : nI z = 0
    · rw [if_pos c0, if_pos rfl, c0]
    · rw [if_neg c0]
      have h0 : 0 < z := Nat.pos_of_ne_zero (fun q => c0 (by rw [q]; rfl))
      obtain ⟨a, b, d⟩ := rl_neg h0 hz
      rw [if_neg a, if_neg b, d]
  · rw [if_neg c]
    obtain ⟨a, b⟩ := rl_small hz
    rw [if_neg a, if_pos b]
theorem rl_shr (w s : Int32) (k : Nat) (hs : (s.toBitVec.smod 32).toNat = k) (hk : k = 0 ∨ k = 6 ∨ k = 12 ∨ k = 18 ∨ k = 24) : (w &&& 1073741823) >>> s &&& 63 = w >>> s &&& 63 := by
  have hz : w.toBitVec.toNat % 2 ^ 30 < 2 ^ 30 := Nat.mod_lt _ (by decide)
  rw [rl_and30, pk_shrN (by omega) s k hs, pk_and _ 6 (by decide), pk_and _ 6 (by decide)]
  congr 1
  have e1 := pk_shr w s k hs
  rw [Int.shiftRight_eq_div_pow] at e1
  have e2 := rl_wN w
  have e3 := rl_wN (w >>> s)
  have e4 : (nI (w.toBitVec.toNat % 2 ^ 30 / 2 ^ k)).toBitVec.toNat = w.toBitVec.toNat % 2 ^ 30 / 2 ^ k := pk_tn (by
    have := Nat.div_le_self (w.toBitVec.toNat % 2 ^ 30) (2 ^ k)
    omega)
  rw [e4]
  generalize w.toBitVec.toNat = W at *
  generalize (w >>> s).toBitVec.toNat = R at *
  generalize w.toInt = I at *
  generalize (w >>> s).toInt = J at *
  rcases hk with rfl | rfl | rfl | rfl | rfl
  · simp at e1 ⊢; omega
  · simp at e1 ⊢; omega
  · simp at e1 ⊢; omega
  · simp at e1 ⊢; omega
  · simp at e1 ⊢; omega
/-- a byte of a word, out of both -/
theorem rl_byte (w : Int32) : ∀ k, k < 5 → (um_size (fo_told w) >>> (((4 - nI k) * 6) &&& 31)) &&& 63 = (w >>> ((24 - 6 * nI k) &&& 31)) &&& 63 := by
  intro k hk
  rw [rl_size]
  rcases (show k = 0 ∨ k = 1 ∨ k = 2 ∨ k = 3 ∨ k = 4 by omega) with rfl | rfl | rfl | rfl | rfl
  · exact rl_shr w _ 24 (by decide) (by decide)
  · exact rl_shr w _ 18 (by decide) (by decide)
  · exact rl_shr w _ 12 (by decide) (by decide)
  · exact rl_shr w _ 6 (by decide) (by decide)
  · exact rl_shr w _ 0 (by decide) (by decide)
theorem rl_told {z : Nat} (h : z < 2 ^ 30) : fo_told (nI z) = nI z := by
  unfold fo_told
  rw [if_neg (show ¬ (1073741824 : Int32) ≤ nI z from nI_ge (b := 1073741824) h (by decide)), pk_andN (by omega) 30 (by decide), Nat.mod_eq_of_lt h]
theorem rl_told_and (w : Int32) : fo_told (w &&& 1073741823) = w &&& 1073741823 := by
  rw [rl_and30]
  exact rl_told (Nat.mod_lt _ (by decide))
theorem rl_told_big {z : Nat} (h0 : 0 < z) (h : z < 2 ^ 30) : fo_told (nI (z + 1073741824)) = -nI z := by
  unfold fo_told
  rw [if_pos (show (1073741824 : Int32) ≤ nI (z + 1073741824) from nI_le (a := 1073741824) (by omega) (by omega)), pk_andN (by omega) 30 (by decide), show (z + 1073741824) % 2 ^ 30 = z by omega, if_neg (nI_ne0 h0 (by omega))]
theorem rl_told_m0 : fo_told 1073741824 = (-2147483648) := by decide
theorem rl_negN {v : Int32} (h : v < 0) (h2 : ¬ v ≤ (-1073741824)) : ∃ z : Nat, 0 < z ∧ z < 2 ^ 30 ∧ v = -nI z := by
  have a := Int32.lt_iff_toInt_lt.mp h
  have b : ¬ v.toInt ≤ (-1073741824 : Int32).toInt := fun q => h2 (Int32.le_iff_toInt_le.mpr q)
  have e0 : (0 : Int32).toInt = 0 := by decide
  have e1 : (-1073741824 : Int32).toInt = -1073741824 := by decide
  rw [e0] at a
  rw [e1] at b
  refine ⟨(-v.toInt).toNat, by omega, by omega, ?_⟩
  apply Int32.toInt_inj.mp
  rw [sb_negT (by omega)]
  omega
/-- set: the word that the reference lays is the class's -/
theorem rl_set {v z : Int32} (h : (if v ≤ (-1073741824) then false else if v < 1073741824 then true else false) = true) : fo_told (fo_sv v z) = um_setv v z := by
  have h1 : ¬ v ≤ (-1073741824) := fun q => by rw [if_pos q] at h; cases h
  have h2 : v < 1073741824 := by
    rw [if_neg h1] at h
    by_cases q : v < 1073741824
    · exact q
    · rw [if_neg q] at h; cases h
  unfold fo_sv um_setv
  by_cases c : v < 0
  · rw [if_pos c]
    obtain ⟨k, k0, k1, rfl⟩ := rl_negN c h1
    rw [show -(-nI k) + 1073741824 = nI (k + 1073741824) by rw [Int32.neg_neg]; exact nI_add k 1073741824, rl_told_big k0 k1]
    have ne : ¬ (-nI k = 0) := fun q => by rw [q] at c; exact absurd c (by decide)
    by_cases cz : z = 0
    · rw [if_pos cz]
    · rw [if_neg cz, if_neg ne]
  · rw [if_neg c]
    obtain ⟨k, hk, rfl⟩ := nI_of c
    have k1 : k < 2 ^ 30 := (nI_ltI (b := 1073741824) hk (by decide)).mp h2
    by_cases c0 : nI k = 0
    · rw [if_pos c0]
      by_cases cz : z = 0
      · rw [if_pos cz, if_pos cz, c0]; decide
      · rw [if_neg cz, if_neg cz, if_pos c0, c0]; decide
    · rw [if_neg c0]
      have e : nI k + 0 = nI k := Int32.add_zero _
      rw [e, rl_told k1]
      by_cases cz : z = 0
      · rw [if_pos cz]
      · rw [if_neg cz, if_neg c0]
/-- codes of letters -/
theorem rl_code0 : ∀ n, n < 256 → um_code (nI n) = fo_cd (fo_alp 56) (fo_gr (nI n)) 56 := by decide +kernel
theorem rl_code (v : Int32) : um_code (v &&& 255) = fo_cd (fo_alp 56) (fo_gr (v &&& 255)) 56 := by
  obtain ⟨j, hj, e⟩ := pk_andE v (m := 255) 8 (by decide)
  rw [e]
  exact rl_code0 j hj
theorem rl_cdN (al : Nat → Int32) (x : Int32) : ∀ n, n ≤ 64 → ∃ c : Nat, c < 64 ∧ fo_cd al x n = nI c := by
  intro n
  induction n with
  | zero => intro _; exact ⟨0, by decide, rfl⟩
  | succ n ih =>
    intro hn
    rw [fo_cd]
    by_cases q : al n = x
    · rw [if_pos q]; exact ⟨n, by omega, rfl⟩
    · rw [if_neg q]; exact ih (by omega)
theorem rl_shl {a c : Nat} (ha : a < 2 ^ 24) (hc : c < 64) : (nI a <<< ((6 : Int32) &&& 31)) ||| nI c = nI (64 * a + c) ∧ 64 * nI a + nI c = nI (64 * a + c) := by
  refine ⟨?_, by rw [show (64 : Int32) = nI 64 from rfl, pk_mul, nI_add]⟩
  rw [pk_shlN _ 6 (by decide) (by omega)]
  apply Int32.toBitVec_inj.mp
  apply BitVec.eq_of_toNat_eq
  have e : (nI (a * 2 ^ 6) ||| nI c).toBitVec.toNat = a * 2 ^ 6 ||| c := by
    show ((nI (a * 2 ^ 6)).toBitVec ||| (nI c).toBitVec).toNat = _
    rw [BitVec.toNat_or, pk_tn (by omega), pk_tn (by omega)]
  rw [e, pk_tn (by omega), Nat.mul_comm a (2 ^ 6)]
  exact (Nat.two_pow_add_eq_or_of_lt (i := 6) hc a).symm
/-- five codes as a word -/
theorem rl_five {c0 c1 c2 c3 c4 : Nat} (h0 : c0 < 64) (h1 : c1 < 64) (h2 : c2 < 64) (h3 : c3 < 64) (h4 : c4 < 64) : ((((((0 : Int32) <<< ((6 : Int32) &&& 31)) ||| nI c0) <<< ((6 : Int32) &&& 31) ||| nI c1) <<< ((6 : Int32) &&& 31) ||| nI c2) <<< ((6 : Int32) &&& 31) ||| nI c3) <<< ((6 : Int32) &&& 31) ||| nI c4 = 64 * (64 * (64 * (64 * (64 * 0 + nI c0) + nI c1) + nI c2) + nI c3) + nI c4 ∧ ∃ z : Nat, z < 2 ^ 30 ∧ 64 * (64 * (64 * (64 * (64 * 0 + nI c0) + nI c1) + nI c2) + nI c3) + nI c4 = nI z := by
  have a0 := rl_shl (a := 0) (c := c0) (by decide) h0
  have a1 := rl_shl (a := 64 * 0 + c0) (c := c1) (by omega) h1
  have a2 := rl_shl (a := 64 * (64 * 0 + c0) + c1) (c := c2) (by omega) h2
  have a3 := rl_shl (a := 64 * (64 * (64 * 0 + c0) + c1) + c2) (c := c3) (by omega) h3
  have a4 := rl_shl (a := 64 * (64 * (64 * (64 * 0 + c0) + c1) + c2) + c3) (c := c4) (by omega) h4
  rw [show (0 : Int32) = nI 0 from rfl, a0.1, a0.2, a1.1, a1.2, a2.1, a2.2, a3.1, a3.2, a4.1, a4.2]
  exact ⟨rfl, _, by omega, rfl⟩
/-- letters -/
theorem rl_let0 : ∀ n, n < 64 → um_letter (nI n) = fo_lt (fo_alp 56) (nI n) ∧ (fo_lt (fo_alp 56) (nI n) = 32 ↔ nI n = 0) := by decide +kernel
