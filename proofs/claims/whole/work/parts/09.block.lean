/-! pure words: blocks -/
def um_wordAt (R : Nat → Nat → Int32) (b i : Int32) : Int32 := if b < 0 then 2147483647 else if 64 ≤ b then 2147483647 else if i < 0 then 2147483647 else if i < 100 then R b.toNatClampNeg i.toNatClampNeg else 2147483647
theorem um_lt {x : Int32} {n : Nat} (h0 : ¬ x < 0) (h1 : ¬ nI n ≤ x) (hn : n < 2 ^ 31) : x.toNatClampNeg < n := by
  obtain ⟨j, hj, rfl⟩ := nI_of h0
  rw [nI_clamp hj]
  exact Nat.not_le.mp (fun z => h1 (nI_le z hj))
theorem um_lt2 {x : Int32} {n : Nat} (h0 : ¬ x < 0) (h1 : x < nI n) (hn : n < 2 ^ 31) : x.toNatClampNeg < n := by
  obtain ⟨j, hj, rfl⟩ := nI_of h0
  rw [nI_clamp hj]
  exact (nI_ltI hj hn).mp h1
theorem um_in' {x : Int32} {n : Nat} (h0 : ¬ x < 0) (h1 : ¬ nI n ≤ x) (hn : n < 2 ^ 31) : vp_in x n := by
  obtain ⟨j, hj, rfl⟩ := nI_of h0
  exact vp_in_nI (Nat.not_le.mp (fun z => h1 (nI_le z hj))) hn
/-- the rows of blocks: what is known of them -/
def um_rowsAt (E : ur_Ev) (h : ur_M) (f : Nat → Option Nat) (R : Nat → Nat → Int32) : Prop := (∀ j, j < 64 → ∀ a, f j = some a → h a = some (.inl (E.1 0, 100, .inl (R j)))) ∧ ∀ j, j < 64 → f j = none → R j = fun _ => 0
theorem um_rowsAt.up {E : ur_Ev} {h : ur_M} {f : Nat → Option Nat} {R : Nat → Nat → Int32} {b : Nat} {e : Option va_E} (hr : um_rowsAt E h f R) (hb : ∀ j, j < 64 → f j ≠ some b) : um_rowsAt E (va_up h b e) f R := ⟨fun j hj a ha => (va_up_ne _ _ (fun z => hb j hj (by rw [ha, z]))).trans (hr.1 j hj a ha), hr.2⟩
/-- what a block brings, n words of it -/
def um_bring (R : Nat → Nat → Int32) (b : Int32) (o : Nat → Int32) (n : Nat) : Nat → Int32 := fun i => if i < n then um_wordAt R b (nI i) else o i
theorem um_bring_succ (R : Nat → Nat → Int32) (b : Int32) (o : Nat → Int32) (n : Nat) : upd (um_bring R b o n) n (um_wordAt R b (nI n)) = um_bring R b o (n + 1) := by
  funext i
  unfold upd um_bring
  by_cases h : i = n
  · subst h
    rw [if_pos rfl, if_pos (Nat.lt_succ_self _)]
  · rw [if_neg h]
    by_cases h2 : i < n
    · rw [if_pos h2, if_pos (by omega)]
    · rw [if_neg h2, if_neg (by omega)]
def um_wrote (E : ur_Ev) (h : ur_M) (ql : Nat) (f : Nat → Option Nat) (k : Nat) (r : Nat → Int32) (h2 : ur_M) : Prop := (∃ a, f k = some a ∧ h2 = va_up h a (some (.inl (E.1 0, 100, .inl r)))) ∨ (f k = none ∧ ∃ a, h a = none ∧ h2 = va_up (va_up h a (some (.inl (E.1 0, 100, .inl r)))) ql (some (.inl (E.1 3, 64, .inr (.inr (.inr (.inr (va_up f k (some a)))))))))
