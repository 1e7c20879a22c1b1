/-! the reference: set, fill, letters -/
def fo_sok (a v : Int32) : Bool := if fo_in a 0 3999 = true then fo_in v (-1073741823) 1073741823 else false
def fo_sv (v z : Int32) : Int32 := if v < 0 then -v + 1073741824 else if v = 0 then (if z = 0 then v + 0 else v + 1073741824) else v + 0
def fo_set (g : Nat → Int32) (a v z : Int32) : Nat → Int32 := if fo_sok a v = true then upd g a.toNatClampNeg (fo_sv v z) else g
def fo_fok (a n : Int32) : Bool := if fo_in n 1 200 = true then fo_in a 0 (4000 - n) else false
def fo_filF (g : Nat → Int32) (a sd : Int32) : Nat → Nat → Int32
  | 0 => g
  | k + 1 => upd (fo_filF g a sd k) (a + nI k).toNatClampNeg ((sd + 12345 * nI k) &&& 1073741823)
def fo_fil (g : Nat → Int32) (a n sd : Int32) : Nat → Int32 := if fo_fok a n = true then fo_filF g a sd n.toNatClampNeg else g
theorem fo_200 {n : Int32} (h : fo_in n 1 200 = true) : ∃ j : Nat, j ≤ 200 ∧ n = nI j := by
  unfold fo_in at h
  by_cases h1 : n < 1
  · rw [if_pos h1] at h; cases h
  · rw [if_neg h1] at h
    by_cases h2 : 200 < n
    · rw [if_pos h2] at h; cases h
    · exact um_200 h1 h2
theorem fo_fin {a : Int32} {nn k : Nat} (hn : nn ≤ 200) (h : fo_in a 0 (4000 - nI nn) = true) (hk : k < nn) : vp_in (a + nI k) 4000 := by
  rw [show (4000 : Int32) = nI 4000 from rfl, pk_sub (by omega)] at h
  obtain ⟨h0, h1, -⟩ := fo_in_iff (by omega) h
  obtain ⟨j, hj, rfl⟩ := nI_of h0
  have := (nI_ltI hj (by omega)).mp h1
  rw [nI_add]
  exact vp_in_nI (by omega) (by omega)
def fo_lt (g : Nat → Int32) (x : Int32) : Int32 := if fo_in x 0 55 = true then g x.toNatClampNeg else 63
def fo_gr (x : Int32) : Int32 := if fo_in x 97 122 = true then x - 32 else x
/-- the last place below n where the alphabet has it, else 0 -/
def fo_cd (g : Nat → Int32) (x : Int32) : Nat → Int32
  | 0 => 0
  | n + 1 => if g n = x then nI n else fo_cd g x n
def fo_bz (J : Nat → Int64) (t : Int64) (u : Int32) : Bool := if fo_pl u < 0 then false else if lg_cmp (J (fo_pl u).toNatClampNeg) t ≤ 0 then false else true
theorem fo_pl_in {u : Int32} (h : ¬ fo_pl u < 0) : vp_in (fo_pl u) 10 := by
  unfold fo_pl at h ⊢
  by_cases h1 : fo_in u 0 3 = true
  · rw [if_pos h1]
    obtain ⟨h0, h2, -⟩ := fo_in_iff (n := 3) (by decide) h1
    obtain ⟨j, hj, rfl⟩ := nI_of h0
    have := (nI_ltI hj (by decide)).mp h2
    exact vp_in_nI (by omega) (by decide)
  · rw [if_neg h1] at h ⊢
    have key : ∀ (lo hi sb : Nat), lo ≤ hi → sb ≤ lo → hi < 2 ^ 31 - 1 → hi - sb < 10 → fo_in u (nI lo) (nI hi) = true → vp_in (u - nI sb) 10 := by
      intro lo hi sb q1 q2 q3 q4 q
      unfold fo_in at q
      by_cases z1 : u < nI lo
      · rw [if_pos z1] at q; cases q
      · rw [if_neg z1] at q
        by_cases z2 : nI hi < u
        · rw [if_pos z2] at q; cases q
        · have h0 : ¬ u < 0 := fun z => z1 (by
            rcases Nat.eq_zero_or_pos lo with e | e
            · rw [e]; exact z
            · exact Int32.lt_trans z (nI_lt (a := 0) e (by omega)))
          obtain ⟨j, hj, rfl⟩ := nI_of h0
          have a1 : lo ≤ j := Nat.not_lt.mp (fun z => z1 (nI_lt z (by omega)))
          have a2 : j ≤ hi := Nat.not_lt.mp (fun z => z2 (nI_lt z hj))
          rw [pk_sub (by omega)]
          exact vp_in_nI (by omega) (by decide)
    by_cases h2 : fo_in u 8 9 = true
    · rw [if_pos h2]; exact key 8 9 4 (by decide) (by decide) (by decide) (by decide) h2
    · rw [if_neg h2] at h ⊢
      by_cases h3 : fo_in u 16 19 = true
      · rw [if_pos h3]; exact key 16 19 10 (by decide) (by decide) (by decide) (by decide) h3
      · rw [if_neg h3] at h; exact absurd (by decide) h
