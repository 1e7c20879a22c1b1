/-! the reference: the new object -/
def fo_alp (k : Nat) : Nat → Int32 := fun j => if j < k then um_let.getD j 0 else 0
theorem fo_alp_0 : fo_alp 0 = fun _ => 0 := by
  funext j
  exact if_neg (Nat.not_lt_zero _)
theorem fo_alp_s {k k' i : Nat} {v : Int32} (h1 : k' = k + 1) (h2 : i = k) (h3 : um_let.getD k 0 = v) : fo_alp k' = upd (fo_alp k) i v := by
  subst h1
  subst h2
  funext j
  unfold fo_alp upd
  by_cases e : j = i
  · subst e; rw [if_pos rfl, if_pos (Nat.lt_succ_self _)]; exact h3
  · rw [if_neg e]
    show (if j < i + 1 then um_let.getD j 0 else 0) = (if j < i then um_let.getD j 0 else 0)
    by_cases q : j < i
    · rw [if_pos q, if_pos (by omega)]
    · rw [if_neg q, if_neg (by omega)]
def fo_T0 : fo_S := ((0, 0, 0, 0), fun _ => 0, fun k => if k = 14 then fo_alp 56 else fun _ => 0)
theorem fo_L {E : ur_Ev} {L : List (Nat × va_E)} {h : ur_M} (hL : um_L L h) (b : Nat → Nat) (T : fo_S) (hl : ∀ k, k < 15 → L[k]? = some (b k, fo_cell E b T k)) : fo_R E b T h :=
  ⟨fun i j hi hj e => hL.2 i j (b i) _ _ (hl i hi) (by rw [e]; exact hl j hj), fun k hk => hL.1 k _ _ (hl k hk)⟩
