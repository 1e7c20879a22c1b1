/-! the reference: what is done by the time, pure -/
/-- of the places below n the one that is done first, or -1 -/
def fo_best (C : Nat → Int32) (J : Nat → Int64) (G : Nat → Int32) (t : Int64) : Nat → Int32
  | 0 => -1
  | u + 1 => if C u = 0 then fo_best C J G t u else if 0 < lg_cmp (J u) t then fo_best C J G t u else if fo_ah J G (nI u) (fo_best C J G t u) = true then nI u else fo_best C J G t u
theorem fo_best_in (C : Nat → Int32) (J : Nat → Int64) (G : Nat → Int32) (t : Int64) : ∀ n : Nat, n ≤ 10 → fo_best C J G t n = -1 ∨ ∃ j : Nat, j < n ∧ fo_best C J G t n = nI j ∧ ¬ C j = 0 := by
  intro n
  induction n with
  | zero => intro _; exact Or.inl rfl
  | succ n ih =>
    intro hn
    have ih := ih (by omega)
    have old : (fo_best C J G t n = -1 ∨ ∃ j : Nat, j < n ∧ fo_best C J G t n = nI j ∧ ¬ C j = 0) → (fo_best C J G t n = -1 ∨ ∃ j : Nat, j < n + 1 ∧ fo_best C J G t n = nI j ∧ ¬ C j = 0) := by
      rintro (q | ⟨j, h1, h2, h3⟩)
      · exact Or.inl q
      · exact Or.inr ⟨j, by omega, h2, h3⟩
    rw [fo_best]
    by_cases c1 : C n = 0
    · rw [if_pos c1]; exact old ih
    · rw [if_neg c1]
      by_cases c2 : 0 < lg_cmp (J n) t
      · rw [if_pos c2]; exact old ih
      · rw [if_neg c2]
        by_cases c3 : fo_ah J G (nI n) (fo_best C J G t n) = true
        · rw [if_pos c3]; exact Or.inr ⟨n, by omega, rfl, c1⟩
        · rw [if_neg c3]; exact old ih
/-- how many places below n have something to bring -/
def fo_cnt (C : Nat → Int32) : Nat → Nat
  | 0 => 0
  | u + 1 => fo_cnt C u + (if C u = 0 then 0 else 1)
theorem fo_cnt_le (C : Nat → Int32) (n : Nat) : fo_cnt C n ≤ n := by
  induction n with
  | zero => exact Nat.le_refl 0
  | succ n ih =>
    rw [fo_cnt]
    by_cases c : C n = 0
    · rw [if_pos c]; omega
    · rw [if_neg c]; omega
theorem fo_cnt_lt (C : Nat → Int32) {j : Nat} (hj : ¬ C j = 0) (n : Nat) : (j < n → fo_cnt (upd C j 0) n + 1 = fo_cnt C n) ∧ (n ≤ j → fo_cnt (upd C j 0) n = fo_cnt C n) := by
  induction n with
  | zero => exact ⟨fun h => absurd h (Nat.not_lt_zero _), fun _ => rfl⟩
  | succ n ih =>
    refine ⟨fun h => ?_, fun h => ?_⟩
    · rw [fo_cnt, fo_cnt]
      by_cases e : n = j
      · subst e
        rw [ih.2 (Nat.le_refl _), pk_us, if_pos rfl, if_neg hj]
      · have := ih.1 (by omega)
        rw [pk_un e]
        omega
    · rw [fo_cnt, fo_cnt, ih.2 (by omega), pk_un (by omega)]
/-- the memory and what is still to come, behind at most n deliveries -/
def fo_go (J : Nat → Int64) (G goals br : Nat → Int32) (t : Int64) : Nat → (Nat → Int32) × (Nat → Int32) → (Nat → Int32) × (Nat → Int32)
  | 0, s => s
  | n + 1, s => if fo_best s.2 J G t 10 < 0 then s else fo_go J G goals br t n (fo_cp s.1 br (goals (fo_best s.2 J G t 10).toNatClampNeg).toNatClampNeg (100 * (fo_best s.2 J G t 10).toNatClampNeg) (fo_ws (fo_best s.2 J G t 10)).toNatClampNeg, upd s.2 (fo_best s.2 J G t 10).toNatClampNeg 0)
