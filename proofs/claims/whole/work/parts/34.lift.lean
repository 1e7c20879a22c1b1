/-! feed, end, set, fill, card: the state behind them -/
section UML2
variable {E : ur_Ev} {a : um_Ad} {S : um_S} {h : ur_M}
theorem um_R.tape (hR : um_R E a S h) (v : Nat) : um_R E a (um_sA S 20 1 v) (va_up h (a.1 20 3) (some (.inr (2, [.ref (a.1 20 4), .int (nI v)])))) :=
  hR.put 20 3 (um_ct_core 3) ((um_ct_core 3).trans (by show some _ = some _; simp [um_sA])) (um_ct_sC (Or.inl ⟨rfl, rfl⟩)) hR.2.2.1 (fun d b h1 h2 => by
    have n : d ≠ 20 := um_d20 (by rw [h1]; decide)
    rw [um_sA_n S (fun z => n z.1)] at h2 ⊢
    exact hR.2.2.2 d b h1 h2)
theorem um_R.mem (hR : um_R E a S h) (f : Nat → Int32) : um_R E a (um_sF S 20 2 f) (va_up h (a.1 20 2) (some (.inl (E.1 0, 4000, .inl f)))) :=
  um_R.arr hR (Or.inr rfl) (um_ct_core 2) ((um_ct_core 2).trans (by unfold um_core; rw [um_sF_1]; rfl))
theorem um_R.byt (hR : um_R E a S h) (f : Nat → Int32) : um_R E a (um_sF S 20 4 f) (va_up h (a.1 20 4) (some (.inl (E.1 1, 400, .inl f)))) :=
  um_R.arr hR (Or.inr rfl) (um_ct_core 4) ((um_ct_core 4).trans (by unfold um_core; rw [um_sF_1]; rfl))
def um_fdS (S : um_S) (v1 v2 v3 v4 v5 : Int32) : um_S := um_sA (um_sF S 20 4 (um_fdb (S.2 20 4) (S.1 20 1) v1 v2 v3 v4 v5)) 20 1 (um_fdn (S.1 20 1))
theorem um_R.feed (hR : um_R E a S h) (v1 v2 v3 v4 v5 : Int32) : um_R E a (um_fdS S v1 v2 v3 v4 v5) (va_up (va_up h (a.1 20 4) (some (.inl (E.1 1, 400, .inl (um_fdb (S.2 20 4) (S.1 20 1) v1 v2 v3 v4 v5))))) (a.1 20 3) (some (.inr (2, [.ref (a.1 20 4), .int (nI (um_fdn (S.1 20 1)))])))) := (hR.byt _).tape _
def um_cutN (n : Nat) (x : Int32) : Nat := (um_cutn (nI n) x).toNatClampNeg
theorem um_cut_e {n : Nat} (hn : n ≤ 400) (x : Int32) : um_cutn (nI n) x = nI (um_cutN n x) ∧ um_cutN n x ≤ n := by
  unfold um_cutN um_cutn
  by_cases h0 : x < 0
  · rw [if_pos h0, nI_clamp (by omega)]; exact ⟨rfl, Nat.le_refl _⟩
  · rw [if_neg h0]
    by_cases h1 : x ≤ nI n
    · rw [if_pos h1]
      obtain ⟨j, hj, rfl⟩ := nI_of h0
      rw [nI_clamp hj]
      exact ⟨rfl, (nI_leI hj (by omega)).mp h1⟩
    · rw [if_neg h1, nI_clamp (by omega)]; exact ⟨rfl, Nat.le_refl _⟩
def um_endS (S : um_S) (x : Int32) : um_S := um_sA S 20 1 (um_cutN (S.1 20 1) x)
theorem um_R.cut (hR : um_R E a S h) (hn : S.1 20 1 ≤ 400) (x : Int32) : um_R E a (um_endS S x) (va_up h (a.1 20 3) (some (.inr (2, [.ref (a.1 20 4), .int (um_cutn (nI (S.1 20 1)) x)])))) := by
  rw [(um_cut_e hn x).1]
  exact hR.tape _
def um_setS (S : um_S) (a v z : Int32) : um_S := um_sF S 20 2 (um_set (S.2 20 2) a v z)
def um_filS (S : um_S) (a n sd : Int32) : um_S := um_sF S 20 2 (um_fill (S.2 20 2) a n sd)
def um_crdS (S : um_S) : um_S := if S.1 16 3 < 100 then um_endS (um_sA (um_sF S 16 2 (um_acc (S.2 16 2) (S.2 20 4) (S.1 20 1) ((S.1 16 2 + S.1 16 3) % 100 * 16) 16)) 16 3 (S.1 16 3 + 1)) 0 else um_endS S 0
def um_crd (S : um_S) : Int32 := if S.1 16 3 < 100 then nI (S.1 16 3 + 1) else -1
theorem um_R.card (hR : um_R E a S h) (hn : S.1 20 1 ≤ 400) (hl : S.1 16 3 < 100) : um_R E a (um_crdS S) (va_up (va_up (va_up h (a.1 16 2) (some (.inl (E.1 0, 1600, .inl (um_acc (S.2 16 2) (S.2 20 4) (S.1 20 1) ((S.1 16 2 + S.1 16 3) % 100 * 16) 16))))) (a.1 16 0) (some (.inr (5, [.int 16, .ref (a.1 16 1), .int (nI (um_dur 16)), .long (lN (S.1 16 4)), .int (nI (S.1 16 0)), .int (nI (S.1 16 1)), .int (nI (S.1 16 5)), .ref (a.1 16 2), .int (nI (S.1 16 2)), .int (nI (S.1 16 3 + 1))])))) (a.1 20 3) (some (.inr (2, [.ref (a.1 20 4), .int (um_cutn (nI (S.1 20 1)) 0)])))) := by
  unfold um_crdS
  rw [if_pos hl]
  have h16 : um_kind 16 = 2 := by decide
  have h1 := um_R.arr (f := um_acc (S.2 16 2) (S.2 20 4) (S.1 20 1) ((S.1 16 2 + S.1 16 3) % 100 * 16) 16) hR (Or.inl (show 2 < 3 by decide)) (um_ct_two (d := 16) (by decide)) (e := .inl (E.1 0, 1600, .inl (um_acc (S.2 16 2) (S.2 20 4) (S.1 20 1) ((S.1 16 2 + S.1 16 3) % 100 * 16) 16))) (by rw [um_ct_two (by decide), um_twoR h16, um_sF_1])
  have h2 := um_R.unit (d := 16) (k := 3) (v := S.1 16 3 + 1) h1 (by decide) (by decide) (fun z => by rw [h16] at z; cases z) (e := .inr (5, [.int 16, .ref (a.1 16 1), .int (nI (um_dur 16)), .long (lN (S.1 16 4)), .int (nI (S.1 16 0)), .int (nI (S.1 16 1)), .int (nI (S.1 16 5)), .ref (a.1 16 2), .int (nI (S.1 16 2)), .int (nI (S.1 16 3 + 1))])) (by rw [um_devR h16]; simp [um_sA, um_sF])
  exact um_R.cut h2 hn 0
end UML2
