/-! the letters: pure -/
theorem um_in {x : Int32} {n : Nat} (h0 : ¬ x < 0) (h1 : x < nI n) (hn : n < 2 ^ 31) : vp_in x n := by
  obtain ⟨j, hj, rfl⟩ := nI_of h0
  exact vp_in_nI ((nI_ltI hj hn).mp h1) hn
theorem um_ch0 : ∀ j, j < 56 → (((um_let.getD j 0 &&& 255).toUInt32 % 65536).toInt32 = um_let.getD j 0 ∧ narrow .char (.int (um_let.getD j 0)) = .int (um_let.getD j 0)) := by decide +kernel
theorem um_ch {x : Int32} (h0 : ¬ x < 0) (h1 : x < 56) : ((um_let.getD x.toNatClampNeg 0 &&& 255).toUInt32 % 65536).toInt32 = um_let.getD x.toNatClampNeg 0 ∧ narrow .char (.int (um_let.getD x.toNatClampNeg 0)) = .int (um_let.getD x.toNatClampNeg 0) := by
  obtain ⟨j, hj, rfl⟩ := nI_of h0
  have hj2 : j < 56 := (nI_ltI hj (by decide)).mp h1
  rw [nI_clamp hj]
  exact um_ch0 j hj2
def um_enc (x : Int32) : Bool := if x < 0 then false else if 255 < x then false else true
theorem um_fb0 : ∀ n, n < 256 → ∀ j, j < 56 → (um_let.getD j 0 = (nI n).toInt8.toInt32 ↔ um_let.getD j 0 = nI n) := by decide +kernel
theorem um_fb {x : Int32} (h : um_enc x = true) {j : Nat} (hj : j < 56) : um_let.getD j 0 = x.toInt8.toInt32 ↔ um_let.getD j 0 = x := by
  unfold um_enc at h
  by_cases h0 : x < 0
  · rw [if_pos h0] at h; cases h
  · rw [if_neg h0] at h
    by_cases h1 : 255 < x
    · rw [if_pos h1] at h; cases h
    · obtain ⟨n, hn, rfl⟩ := nI_of h0
      refine um_fb0 n ?_ j hj
      rcases Nat.lt_or_ge n 256 with q | q
      · exact q
      · exact absurd (nI_lt (a := 255) (b := n) (by omega) hn) h1
theorem um_lets : ∀ j, j < 56 → um_enc (um_let.getD j 0) = true := by decide +kernel
theorem um_find_no {x : Int32} (h : um_enc x = false) : ∀ n i, i + n = 56 → um_find x n i = -1 := by
  intro n
  induction n with
  | zero => intro i _; rfl
  | succ n ih =>
    intro i hi
    rw [um_find, if_neg (fun q => by have := um_lets i (by omega); rw [q, h] at this; cases this)]
    exact ih (i + 1) (by omega)
theorem um_shr0 (x : Int32) : x >>> ((0 : Int32) &&& 31) = x := sb_shr0 x
