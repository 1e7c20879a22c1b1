/-! the reference's state: numbers, times, arrays by places; and what the heap holds of it -/
abbrev fo_S : Type := (Int64 × Int32 × Int32 × Int32) × (Nat → Int64) × (Nat → Nat → Int32)
def fo_kd (k : Nat) : Nat := if k = 5 then 6 else if k = 12 then 1 else 0
def fo_sz (k : Nat) : Nat := if k = 1 then 4000 else if k = 2 then 38400 else if k = 3 then 4 else if k = 8 then 1000 else if k = 9 then 8000 else if k = 10 then 3 else if k = 11 then 900 else if k = 12 then 108000 else if k = 13 then 400 else if k = 14 then 56 else 10
def fo_ob (b : Nat → Nat) (t : Int64 × Int32 × Int32 × Int32) : va_E := .inr (7, [.ref (b 1), .ref (b 2), .ref (b 3), .long t.1, .ref (b 4), .ref (b 5), .ref (b 6), .ref (b 7), .int t.2.1, .ref (b 8), .int t.2.2.1, .ref (b 9), .ref (b 10), .ref (b 11), .ref (b 12), .ref (b 13), .int t.2.2.2, .ref (b 14)])
def fo_cell (E : ur_Ev) (b : Nat → Nat) (T : fo_S) (k : Nat) : va_E := if k = 0 then fo_ob b T.1 else if k = 4 then .inl (E.1 5, 10, .inr (.inl T.2.1)) else .inl (E.1 (fo_kd k), fo_sz k, .inl (T.2.2 k))
def fo_R (E : ur_Ev) (b : Nat → Nat) (T : fo_S) (h : ur_M) : Prop := (∀ i j, i < 15 → j < 15 → b i = b j → i = j) ∧ ∀ k, k < 15 → h (b k) = some (fo_cell E b T k)
def fo_pa (T : fo_S) (k : Nat) (f : Nat → Int32) : fo_S := (T.1, T.2.1, fun j => if j = k then f else T.2.2 j)
def fo_pJ (T : fo_S) (J : Nat → Int64) : fo_S := (T.1, J, T.2.2)
def fo_po (T : fo_S) (t : Int64 × Int32 × Int32 × Int32) : fo_S := (t, T.2)
theorem fo_pa_s (T : fo_S) (k : Nat) (f : Nat → Int32) : (fo_pa T k f).2.2 k = f := if_pos rfl
theorem fo_pa_n (T : fo_S) {k j : Nat} (f : Nat → Int32) (n : j ≠ k) : (fo_pa T k f).2.2 j = T.2.2 j := if_neg n
theorem fo_pa_pa (T : fo_S) (k : Nat) (f g : Nat → Int32) : fo_pa (fo_pa T k f) k g = fo_pa T k g := by
  show (T.1, T.2.1, fun j => if j = k then g else (if j = k then f else T.2.2 j)) = (T.1, T.2.1, fun j => if j = k then g else T.2.2 j)
  congr 2
  funext j
  by_cases e : j = k
  · rw [if_pos e, if_pos e]
  · rw [if_neg e, if_neg e, if_neg e]
theorem fo_R.ne {E : ur_Ev} {b : Nat → Nat} {T : fo_S} {h : ur_M} (hT : fo_R E b T h) {i j : Nat} (hi : i < 15) (hj : j < 15) (n : i ≠ j) : b i ≠ b j := fun z => n (hT.1 i j hi hj z)
theorem fo_R.obj {E : ur_Ev} {b : Nat → Nat} {T : fo_S} {h : ur_M} (hT : fo_R E b T h) : h (b 0) = some (fo_ob b T.1) := hT.2 0 (by decide)
theorem fo_R.frees {E : ur_Ev} {b : Nat → Nat} {T : fo_S} {h : ur_M} (hT : fo_R E b T h) : h (b 4) = some (.inl (E.1 5, 10, .inr (.inl T.2.1))) := hT.2 4 (by decide)
theorem fo_R.arr {E : ur_Ev} {b : Nat → Nat} {T : fo_S} {h : ur_M} (hT : fo_R E b T h) (k : Nat) (hk : k < 15) (h0 : k ≠ 0) (h4 : k ≠ 4) : h (b k) = some (.inl (E.1 (fo_kd k), fo_sz k, .inl (T.2.2 k))) := by
  have := hT.2 k hk
  rw [fo_cell, if_neg h0, if_neg h4] at this
  exact this
theorem fo_R.put {E : ur_Ev} {b : Nat → Nat} {T : fo_S} {h : ur_M} (hT : fo_R E b T h) {k : Nat} (hk : k < 15) (T2 : fo_S) (ho : ∀ j, j < 15 → j ≠ k → fo_cell E b T2 j = fo_cell E b T j) : fo_R E b T2 (va_up h (b k) (some (fo_cell E b T2 k))) := by
  refine ⟨hT.1, fun j hj => ?_⟩
  by_cases e : j = k
  · subst e; exact va_up_self _ _ _
  · rw [va_up_ne _ _ (hT.ne hj hk e), ho j hj e]; exact hT.2 j hj
theorem fo_R.pa {E : ur_Ev} {b : Nat → Nat} {T : fo_S} {h : ur_M} (hT : fo_R E b T h) (k : Nat) (f : Nat → Int32) (hk : k < 15) (h0 : k ≠ 0) (h4 : k ≠ 4) : fo_R E b (fo_pa T k f) (va_up h (b k) (some (.inl (E.1 (fo_kd k), fo_sz k, .inl f)))) := by
  have := hT.put hk (fo_pa T k f) (fun j hj n => by
    unfold fo_cell
    by_cases e0 : j = 0
    · rw [if_pos e0, if_pos e0]; rfl
    · rw [if_neg e0, if_neg e0]
      by_cases e4 : j = 4
      · rw [if_pos e4, if_pos e4]; rfl
      · rw [if_neg e4, if_neg e4, fo_pa_n T f n])
  rw [fo_cell, if_neg h0, if_neg h4, fo_pa_s] at this
  exact this
theorem fo_R.pJ {E : ur_Ev} {b : Nat → Nat} {T : fo_S} {h : ur_M} (hT : fo_R E b T h) (J : Nat → Int64) : fo_R E b (fo_pJ T J) (va_up h (b 4) (some (.inl (E.1 5, 10, .inr (.inl J))))) := by
  have := hT.put (k := 4) (by decide) (fo_pJ T J) (fun j hj n => by
    unfold fo_cell
    by_cases e0 : j = 0
    · rw [if_pos e0, if_pos e0]; rfl
    · rw [if_neg e0, if_neg e0, if_neg n, if_neg n]; rfl)
  exact this
theorem fo_R.po {E : ur_Ev} {b : Nat → Nat} {T : fo_S} {h : ur_M} (hT : fo_R E b T h) (t : Int64 × Int32 × Int32 × Int32) : fo_R E b (fo_po T t) (va_up h (b 0) (some (fo_ob b t))) := by
  have := hT.put (k := 0) (by decide) (fo_po T t) (fun j hj n => by
    unfold fo_cell
    rw [if_neg n, if_neg n]; rfl)
  exact this
theorem fo_nar0 : vp_nar .boolean 0 = 0 := by decide
theorem fo_nar1 : vp_nar .boolean 1 = 1 := by decide
/-- the state behind at most n deliveries -/
def fo_goS (T : fo_S) : Nat → fo_S
  | 0 => T
  | n + 1 => if fo_best (T.2.2 5) T.2.1 (T.2.2 7) T.1.1 10 < 0 then T else fo_goS (fo_pa (fo_pa T 5 (upd (T.2.2 5) (fo_best (T.2.2 5) T.2.1 (T.2.2 7) T.1.1 10).toNatClampNeg 0)) 1 (fo_cp (T.2.2 1) (T.2.2 8) (T.2.2 6 (fo_best (T.2.2 5) T.2.1 (T.2.2 7) T.1.1 10).toNatClampNeg).toNatClampNeg (100 * (fo_best (T.2.2 5) T.2.1 (T.2.2 7) T.1.1 10).toNatClampNeg) (fo_ws (fo_best (T.2.2 5) T.2.1 (T.2.2 7) T.1.1 10)).toNatClampNeg)) n
theorem fo_goS_end {T : fo_S} (h : fo_best (T.2.2 5) T.2.1 (T.2.2 7) T.1.1 10 < 0) (n : Nat) : fo_goS T n = T := by
  cases n with
  | zero => rfl
  | succ n => rw [fo_goS, if_pos h]
/-- the goals of what is to come lie in the memory -/
def fo_Gl (T : fo_S) : Prop := ∀ j, j < 10 → ¬ T.2.2 5 j = 0 → ∃ gn : Nat, T.2.2 6 j = nI gn ∧ gn + (fo_ws (nI j)).toNatClampNeg ≤ 4000
theorem fo_ws_n : ∀ j, j < 10 → ∃ wn : Nat, fo_ws (nI j) = nI wn ∧ wn ≤ 100 := by
  intro j hj
  rcases (show j < 6 ∨ j = 6 ∨ j = 7 ∨ j = 8 ∨ j = 9 by omega) with h | rfl | rfl | rfl | rfl
  · exact ⟨100, by unfold fo_ws; rw [if_neg (show ¬ (6 : Int32) ≤ nI j from fun z => absurd ((nI_leI (a := 6) (by decide) (by omega)).mp z) (by omega))]; rfl, by decide⟩
  · exact ⟨16, by decide, by decide⟩
  · exact ⟨16, by decide, by decide⟩
  · exact ⟨24, by decide, by decide⟩
  · exact ⟨14, by decide, by decide⟩
theorem fo_neg1 {x : Int32} (h : x = -1) : x < 0 := by rw [h]; decide
theorem fo_cnt_0 {C : Nat → Int32} {j : Nat} (hj : j < 10) (hc : ¬ C j = 0) : fo_cnt (upd C j 0) 10 + 1 = fo_cnt C 10 := (fo_cnt_lt C hc 10).1 hj
theorem fo_Gl_dlv {T : fo_S} (hG : fo_Gl T) (j : Nat) (f : Nat → Int32) : fo_Gl (fo_pa (fo_pa T 5 (upd (T.2.2 5) j 0)) 1 f) := by
  intro i hi hc
  rw [fo_pa_n _ f (by decide), fo_pa_s] at hc
  by_cases e : i = j
  · subst e; rw [pk_us] at hc; exact absurd rfl hc
  · rw [pk_un e] at hc
    rw [fo_pa_n _ f (by decide), fo_pa_n T _ (by decide)]
    exact hG i hi hc
theorem fo_pa_id (T : fo_S) (k : Nat) : fo_pa T k (T.2.2 k) = T := by
  show (T.1, T.2.1, fun j => if j = k then T.2.2 k else T.2.2 j) = (T.1, T.2.1, T.2.2)
  congr 2
  funext j
  by_cases e : j = k
  · rw [if_pos e, e]
  · rw [if_neg e]
theorem fo_goS_s {T : fo_S} {n j gn wn : Nat} (hb : fo_best (T.2.2 5) T.2.1 (T.2.2 7) T.1.1 10 = nI j) (hj : j < 10) (hg : T.2.2 6 j = nI gn) (hgn : gn < 2 ^ 31) (hw : fo_ws (nI j) = nI wn) (hwn : wn < 2 ^ 31) : fo_goS T (n + 1) = fo_goS (fo_pa (fo_pa T 5 (upd (T.2.2 5) j 0)) 1 (fo_cp (T.2.2 1) (T.2.2 8) gn (100 * j) wn)) n := by
  rw [fo_goS, hb, if_neg (nI_pos (show j < 2 ^ 31 by omega)), nI_clamp (show j < 2 ^ 31 by omega), hg, nI_clamp hgn, hw, nI_clamp hwn]
