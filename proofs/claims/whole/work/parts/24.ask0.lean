/-! pure words: which unit; what calls answer -/
def um_un (u : Int32) : Option Nat := if u < 0 then none else if u < 20 then (if um_kind u.toNatClampNeg = 4 then none else some u.toNatClampNeg) else none
theorem um_dvo_un (a : um_Ad) (u : Int32) : um_dvo (um_devs a) u = (um_un u).map (fun d => a.1 d 0) := by
  unfold um_dvo um_un um_devs
  by_cases h0 : u < 0
  · rw [if_pos h0, if_pos h0]; rfl
  · rw [if_neg h0, if_neg h0]
    by_cases h1 : u < 20
    · rw [if_pos h1, if_pos h1]
      by_cases h2 : um_kind u.toNatClampNeg = 4
      · rw [if_pos h2, if_pos h2]; rfl
      · rw [if_neg h2, if_neg h2]; rfl
    · rw [if_neg h1, if_neg h1]; rfl
theorem um_un_k {u : Int32} {d : Nat} (h : um_un u = some d) : um_kind d ≠ 4 ∧ u = nI d := by
  unfold um_un at h
  by_cases h0 : u < 0
  · rw [if_pos h0] at h; cases h
  · rw [if_neg h0] at h
    by_cases h1 : u < 20
    · rw [if_pos h1] at h
      by_cases h2 : um_kind u.toNatClampNeg = 4
      · rw [if_pos h2] at h; cases h
      · rw [if_neg h2] at h
        cases h
        obtain ⟨j, hj, rfl⟩ := nI_of h0
        rw [nI_clamp hj] at h2 ⊢
        exact ⟨h2, rfl⟩
    · rw [if_neg h1] at h; cases h
theorem um_kinds {d : Nat} (h : um_kind d ≠ 4) : um_kind d = 0 ∨ um_kind d = 1 ∨ um_kind d = 2 ∨ um_kind d = 3 := by
  unfold um_kind at h ⊢
  by_cases h1 : d < 4
  · rw [if_pos h1]; exact Or.inl rfl
  · rw [if_neg h1] at h ⊢
    by_cases h2 : d = 8
    · rw [if_pos h2]; exact Or.inr (Or.inl rfl)
    · rw [if_neg h2] at h ⊢
      by_cases h3 : d = 9
      · rw [if_pos h3]; exact Or.inr (Or.inl rfl)
      · rw [if_neg h3] at h ⊢
        by_cases h4 : d = 16
        · rw [if_pos h4]; exact Or.inr (Or.inr (Or.inl rfl))
        · rw [if_neg h4] at h ⊢
          by_cases h5 : d = 17
          · rw [if_pos h5]; exact Or.inr (Or.inr (Or.inr rfl))
          · rw [if_neg h5] at h ⊢
            by_cases h6 : d = 18
            · rw [if_pos h6]; exact Or.inr (Or.inr (Or.inr rfl))
            · rw [if_neg h6] at h ⊢
              by_cases h7 : d = 19
              · rw [if_pos h7]; exact Or.inr (Or.inr (Or.inr rfl))
              · rw [if_neg h7] at h; exact absurd rfl h
theorem um_kd : ∀ d, d < 20 → (um_kind d = 0 → um_words d = 100) ∧ (um_kind d = 1 → um_words d = 100) ∧ (um_kind d = 2 → d = 16) ∧ (um_kind d = 3 → 17 ≤ d ∧ 0 < um_words d ∧ um_words d ≤ 24) := by decide
theorem um_devT {a : um_Ad} {S : um_S} {d : Nat} (hk : um_kind d = 0) : um_dev a S d = .inr (3, [.int 100, .ref (a.1 d 1), .int (nI (um_dur d)), .long (lN (S.1 d 4)), .int (nI (S.1 d 0)), .int (nI (S.1 d 1)), .int (nI (S.1 d 5)), .int (nI (S.1 d 2)), .ref (a.1 d 2)]) := by
  unfold um_dev um_ci um_tl
  rw [if_pos hk, if_pos hk, (um_kd d (um_k20' (by omega))).1 hk]
  rfl
theorem um_devK {a : um_Ad} {S : um_S} {d : Nat} (hk : um_kind d = 1) : um_dev a S d = .inr (4, [.int 100, .ref (a.1 d 1), .int (nI (um_dur d)), .long (lN (S.1 d 4)), .int (nI (S.1 d 0)), .int (nI (S.1 d 1)), .int (nI (S.1 d 5)), .ref (a.1 d 2)]) := by
  unfold um_dev um_ci um_tl
  rw [if_neg (show ¬ um_kind d = 0 by omega), if_neg (show ¬ um_kind d = 0 by omega), if_pos hk, if_pos hk, (um_kd d (um_k20' (by omega))).2.1 hk]
  rfl
theorem um_devR {a : um_Ad} {S : um_S} {d : Nat} (hk : um_kind d = 2) : um_dev a S d = .inr (5, [.int 16, .ref (a.1 d 1), .int (nI (um_dur d)), .long (lN (S.1 d 4)), .int (nI (S.1 d 0)), .int (nI (S.1 d 1)), .int (nI (S.1 d 5)), .ref (a.1 d 2), .int (nI (S.1 d 2)), .int (nI (S.1 d 3))]) := by
  unfold um_dev um_ci um_tl
  rw [if_neg (show ¬ um_kind d = 0 by omega), if_neg (show ¬ um_kind d = 0 by omega), if_neg (show ¬ um_kind d = 1 by omega), if_neg (show ¬ um_kind d = 1 by omega), if_pos hk, if_pos hk, show um_words d = 16 by rw [(um_kd d (um_k20' (by omega))).2.2.1 hk]; rfl]
  rfl
theorem um_devW {a : um_Ad} {S : um_S} {d : Nat} (hk : um_kind d = 3) : um_dev a S d = .inr (6, [.int (nI (um_words d)), .ref (a.1 d 1), .int (nI (um_dur d)), .long (lN (S.1 d 4)), .int (nI (S.1 d 0)), .int (nI (S.1 d 1)), .int (nI (S.1 d 5)), .ref (a.1 d 2), .int (if d = 18 then 1 else 0), .int (nI (S.1 d 2))]) := by
  unfold um_dev um_ci um_tl
  rw [if_neg (show ¬ um_kind d = 0 by omega), if_neg (show ¬ um_kind d = 0 by omega), if_neg (show ¬ um_kind d = 1 by omega), if_neg (show ¬ um_kind d = 1 by omega), if_neg (show ¬ um_kind d = 2 by omega), if_neg (show ¬ um_kind d = 2 by omega)]
theorem um_twoB {E : ur_Ev} {a : um_Ad} {S : um_S} {d : Nat} (hk : um_kind d ≤ 1) : um_two E a S d = .inl (E.1 3, 64, .inr (.inr (.inr (.inr (um_rows a d))))) := by
  unfold um_two
  rw [if_neg (by omega), if_neg (by omega)]
theorem um_twoR {E : ur_Ev} {a : um_Ad} {S : um_S} {d : Nat} (hk : um_kind d = 2) : um_two E a S d = .inl (E.1 0, 1600, .inl (S.2 d 2)) := by
  unfold um_two
  rw [if_pos hk]
theorem um_twoW {E : ur_Ev} {a : um_Ad} {S : um_S} {d : Nat} (hk : um_kind d = 3) : um_two E a S d = .inl (E.1 4, 300, .inr (.inr (.inr (.inr (um_rows a d))))) := by
  unfold um_two
  rw [if_neg (by omega), if_pos hk]
theorem um_rows_some {a : um_Ad} {d b x : Nat} (h : um_rows a d b = some x) : a.2 d b = true ∧ x = a.1 d (3 + b) := by
  unfold um_rows at h
  by_cases q : a.2 d b = true
  · rw [if_pos q] at h; cases h; exact ⟨q, rfl⟩
  · rw [if_neg q] at h; cases h
theorem um_rows_none {a : um_Ad} {d b : Nat} (h : um_rows a d b = none) : a.2 d b = false := by
  unfold um_rows at h
  by_cases q : a.2 d b = true
  · rw [if_pos q] at h; cases h
  · exact Bool.eq_false_iff.mpr q
theorem um_R.rowsAt {E : ur_Ev} {a : um_Ad} {S : um_S} {h : ur_M} (hR : um_R E a S h) {d : Nat} (hk : um_kind d ≤ 1) : um_rowsAt E h (um_rows a d) (fun b => S.2 d (3 + b)) := by
  refine ⟨fun j hj x hx => ?_, fun j hj hx => hR.2.2.1 d j hk (um_rows_none hx)⟩
  obtain ⟨h1, rfl⟩ := um_rows_some hx
  refine hR.1 d (3 + j) _ ?_
  rw [um_ct_row (by omega), if_pos h1]
  unfold um_row
  rw [if_neg (by omega)]
theorem um_R.linesAt {E : ur_Ev} {a : um_Ad} {S : um_S} {h : ur_M} (hR : um_R E a S h) {d : Nat} (hk : um_kind d = 3) : um_linesAt E h (um_rows a d) (fun b => S.1 d (6 + b)) (fun b => S.2 d (3 + b)) (S.1 d 2) := by
  intro j hj
  obtain ⟨h1, h2⟩ := hR.2.2.2 d j hk hj
  refine ⟨a.1 d (3 + j), if_pos h1, hR.1 d (3 + j) _ ?_, h2⟩
  rw [um_ct_row (by omega), if_pos h1]
  unfold um_row
  rw [if_pos hk]
def um_busy (S : um_S) (u : Int32) : Bool := match um_un u with
  | none => false
  | some d => decide (S.1 20 2 < S.1 d 4)
theorem um_cmp_le {x y : Nat} (hx : x < 2 ^ 31) (hy : y < 2 ^ 31) : (lg_cmp (lN x) (lN y) ≤ 0) ↔ x ≤ y := by
  rw [← Int32.not_lt, um_cmp_gt hx hy]
  exact Nat.not_lt
def um_dt (n : Int32) : Nat := (if 0 < (if n < 10000 then n else 10000) then (if n < 10000 then n else 10000) else 0).toNatClampNeg
theorem um_dt_e (n : Int32) : (if 0 < (if n < 10000 then n else 10000) then (if n < 10000 then n else 10000) else (0 : Int32)) = nI (um_dt n) ∧ um_dt n ≤ 10000 := by
  unfold um_dt
  by_cases h1 : n < 10000
  · rw [if_pos h1]
    by_cases h2 : 0 < n
    · rw [if_pos h2]
      obtain ⟨j, hj, rfl⟩ := nI_of (x := n) (fun z => Int32.lt_irrefl (Int32.lt_trans h2 z))
      rw [nI_clamp hj]
      exact ⟨rfl, Nat.le_of_lt ((nI_ltI (b := 10000) hj (by decide)).mp h1)⟩
    · rw [if_neg h2]; exact ⟨rfl, by decide⟩
  · rw [if_neg h1, if_pos (by decide)]; exact ⟨rfl, by decide⟩
theorem um_go_core : ∀ (n : Nat) (S : um_S) (k : Nat), (um_go n S).1 20 k = S.1 20 k := by
  intro n
  induction n with
  | zero => intro S k; rfl
  | succ n ih =>
    intro S k
    rcases h : um_nd S 20 with _ | u
    · rw [um_go_none h]
    · rw [um_go_some h, ih]
      exact um_sA_n _ (fun z => um_d20 (um_nd_k h).1 z.1.symm)
theorem um_goTo_now (S : um_S) (t : Nat) : (um_goTo S t).1 20 2 = t := by
  unfold um_goTo
  rw [um_go_core]
  exact um_sA_1 _ _ _ _
theorem um_Bd_go : ∀ (n : Nat) {S : um_S}, um_Bd S → um_Bd (um_go n S) := by
  intro n
  induction n with
  | zero => intro S h; exact h
  | succ n ih =>
    intro S h
    rcases q : um_nd S 20 with _ | u
    · rw [um_go_none q]; exact h
    · rw [um_go_some q]; exact ih (um_Bd_dlv h u)
theorem um_Bd_goTo {S : um_S} (h : um_Bd S) {t : Nat} (ht : t < 2 ^ 31) : um_Bd (um_goTo S t) := um_Bd_go 20 (um_Bd_sA h ht)
def um_tell (S : um_S) (d : Nat) : Int32 := if um_kind d = 1 then -1 else if um_kind d = 2 then nI (S.1 d 3) else nI (S.1 d 2)
def um_unit (S : um_S) (u : Int32) : Int32 := match um_un u with
  | none => -1
  | some d => um_tell S d
def um_letr (S : um_S) (u k i : Int32) : Int32 := match um_un u with
  | none => -1
  | some d => if um_kind d = 3 then um_lAt (fun b => S.1 d (6 + b)) (fun b => S.2 d (3 + b)) (S.1 d 2) k i else -1
def um_blck (S : um_S) (u b i : Int32) : Int32 := match um_un u with
  | none => 2147483647
  | some d => if um_kind d ≤ 1 then um_wordAt (fun b => S.2 d (3 + b)) b i else 2147483647
def um_df (S : um_S) (d : Nat) (op m x : Int32) : Int32 := if um_kind d = 0 then um_fT op (nI (S.1 d 2)) else if um_kind d = 1 then um_fK op m x else if um_kind d = 2 then um_fR op (nI (S.1 d 3)) else um_fW op (if d = 18 then 1 else 0) m
def um_fltN (op m : Int32) : Int32 := if op < 0 then 1 else if op ≤ 2 then (if op = 0 then 5 else if um_holds m 1 = true then 5 else 2) else 1
def um_flt (S : um_S) (d : Nat) (op m x : Int32) : Int32 := if op < 0 then 1 else if op ≤ 2 then (if op = 0 then um_df S d op m x else if um_holds m (nI (um_words d)) = true then um_df S d op m x else 2) else 1
