/-! an operation without fault -/
def um_Ok (S : um_S) : Prop := (∀ d, um_kind d = 0 → S.1 d 2 ≤ 64) ∧ (∀ d, um_kind d = 3 → S.1 d 2 ≤ 300) ∧ S.1 16 2 < 100 ∧ S.1 16 3 ≤ 100 ∧ S.1 20 1 ≤ 400 ∧ True
theorem um_go_A : ∀ (n : Nat) (S : um_S) (d k : Nat), k ≠ 0 → (um_go n S).1 d k = S.1 d k := by
  intro n
  induction n with
  | zero => intro S d k _; rfl
  | succ n ih =>
    intro S d k hk
    rcases h : um_nd S 20 with _ | u
    · rw [um_go_none h]
    · rw [um_go_some h, ih _ _ _ hk]
      exact um_sA_n _ (fun z => hk z.2)
theorem um_go_F : ∀ (n : Nat) (S : um_S) (d k : Nat), ¬ (d = 20 ∧ k = 2) → (um_go n S).2 d k = S.2 d k := by
  intro n
  induction n with
  | zero => intro S d k _; rfl
  | succ n ih =>
    intro S d k hk
    rcases h : um_nd S 20 with _ | u
    · rw [um_go_none h]
    · rw [um_go_some h, ih _ _ _ hk]
      exact um_sF_n S hk
theorem um_bgn_k {S : um_S} {d k : Nat} (hd : d ≠ 20) (hk : k ≠ 0 ∧ k ≠ 1 ∧ k ≠ 4) : (um_bgn S d).1 d k = S.1 d k := by
  unfold um_bgn
  rw [um_sA_n _ (fun z => hk.2.1 z.2), um_sA_n _ (fun z => hk.2.2 z.2), um_sA_n _ (fun z => hd z.1)]
  unfold um_goTo
  rw [um_go_A _ _ _ _ hk.1]
  exact um_sA_n S (fun z => hd z.1)
theorem um_bgn_2 {S : um_S} {d p : Nat} (hp : p ≠ 20) : (um_bgn S d).1 p 2 = S.1 p 2 := by
  unfold um_bgn
  rw [um_sA_n _ (by omega), um_sA_n _ (by omega), um_sA_n _ (by omega)]
  unfold um_goTo
  rw [um_go_A _ _ _ _ (by decide)]
  exact um_sA_n S (by omega)
theorem um_bgn_A {a : um_Ad} {S : um_S} {d : Nat} (hA : um_A a S) : um_A a (um_bgn S d) := um_A_same hA (fun _ _ _ => rfl) (fun p hp => um_bgn_2 (um_d20 (by omega)))
theorem um_wk_2 {T : um_S} {d : Nat} {op m x : Int32} (hd : um_kind d ≠ 3) (hd4 : um_kind d ≠ 4) (p : Nat) (hp : um_kind p = 3) : (um_wk T d op m x).1 p 2 = T.1 p 2 := by
  have n : p ≠ d := fun z => hd (by rw [← z]; exact hp)
  have e : ∀ (S : um_S) (k v : Nat), (um_sA S d k v).1 p 2 = S.1 p 2 := fun S k v => um_sA_n S (fun z => n z.1)
  unfold um_wk
  rcases um_kinds hd4 with q | q | q | q
  · rw [if_pos q]
    unfold um_wT
    by_cases h0 : op = 0
    · rw [if_pos h0, e]
    · rw [if_neg h0]
      by_cases h1 : op = 1
      · rw [if_pos h1, e, e, e]; rfl
      · rw [if_neg h1, e]; rfl
  · rw [if_neg (show ¬ um_kind d = 0 by omega), if_pos q]
    unfold um_wK
    by_cases h0 : op = 0
    · rw [if_pos h0]
    · rw [if_neg h0]
      by_cases h1 : op = 1
      · rw [if_pos h1, e, e]; rfl
      · rw [if_neg h1]; rfl
  · rw [if_neg (show ¬ um_kind d = 0 by omega), if_neg (show ¬ um_kind d = 1 by omega), if_pos q]
    unfold um_wR
    rw [e, e, e, e]
    rfl
  · exact absurd q hd
theorem um_max {x y : Nat} (hx : x < 2 ^ 31) (hy : y < 2 ^ 31) : (if lN y < lN x then lN x else lN y) = lN (max x y) := by
  by_cases h : y < x
  · rw [if_pos ((lN_lt hy hx).mpr h), Nat.max_eq_left (Nat.le_of_lt h)]
  · rw [if_neg (fun z => h ((lN_lt hy hx).mp z)), Nat.max_eq_right (Nat.not_lt.mp h)]
theorem um_op3 {op : Int32} (h0 : ¬ op < 0) (h2 : op ≤ 2) : op = 0 ∨ op = 1 ∨ op = 2 := by
  obtain ⟨j, hj, rfl⟩ := nI_of h0
  have : j ≤ 2 := (nI_leI (b := 2) hj (by decide)).mp h2
  rcases (show j = 0 ∨ j = 1 ∨ j = 2 by omega) with rfl | rfl | rfl
  · exact Or.inl rfl
  · exact Or.inr (Or.inl rfl)
  · exact Or.inr (Or.inr rfl)
theorem um_flt_0 {S : um_S} {d : Nat} {op m x : Int32} (h : um_flt S d op m x = 0) : (op = 0 ∨ op = 1 ∨ op = 2) ∧ (op ≠ 0 → um_holds m (nI (um_words d)) = true) ∧ um_df S d op m x = 0 := by
  unfold um_flt at h
  by_cases h0 : op < 0
  · rw [if_pos h0] at h; exact absurd h (by decide)
  · rw [if_neg h0] at h
    by_cases h2 : op ≤ 2
    · rw [if_pos h2] at h
      by_cases h3 : op = 0
      · rw [if_pos h3] at h; exact ⟨um_op3 h0 h2, fun z => absurd h3 z, h⟩
      · rw [if_neg h3] at h
        by_cases h4 : um_holds m (nI (um_words d)) = true
        · rw [if_pos h4] at h; exact ⟨um_op3 h0 h2, fun _ => h4, h⟩
        · rw [if_neg h4] at h; exact absurd h (by decide)
    · rw [if_neg h2] at h; exact absurd h (by decide)
theorem um_df_T {S : um_S} {d : Nat} {op m x : Int32} (hk : um_kind d = 0) (h : um_df S d op m x = 0) (ho : op ≠ 0) (hp : S.1 d 2 ≤ 64) : S.1 d 2 < 64 := by
  unfold um_df um_fT at h
  rw [if_pos hk, if_neg ho] at h
  by_cases q : nI (S.1 d 2) < 64
  · exact (nI_ltI (b := 64) (by omega) (by decide)).mp q
  · rw [if_neg q] at h; exact absurd h (by decide)
theorem um_df_K {S : um_S} {d : Nat} {op m x : Int32} (hk : um_kind d = 1) (h : um_df S d op m x = 0) : ¬ x < 0 ∧ x < 64 := by
  unfold um_df um_fK at h
  rw [if_neg (show ¬ um_kind d = 0 by omega), if_pos hk] at h
  have key : (if x < 0 then (6 : Int32) else if x < 64 then 0 else 6) = 0 → ¬ x < 0 ∧ x < 64 := by
    intro q
    by_cases h0 : x < 0
    · rw [if_pos h0] at q; exact absurd q (by decide)
    · rw [if_neg h0] at q
      by_cases h1 : x < 64
      · exact ⟨h0, h1⟩
      · rw [if_neg h1] at q; exact absurd q (by decide)
  by_cases ho : op = 0
  · rw [if_pos ho] at h
    by_cases hm : m = 0
    · rw [if_pos hm] at h; exact key h
    · rw [if_neg hm] at h; exact absurd h (by decide)
  · rw [if_neg ho] at h; exact key h
theorem um_df_R {S : um_S} {d : Nat} {op m x : Int32} (hk : um_kind d = 2) (h : um_df S d op m x = 0) : op = 1 ∧ 0 < S.1 d 3 := by
  unfold um_df um_fR at h
  rw [if_neg (show ¬ um_kind d = 0 by omega), if_neg (show ¬ um_kind d = 1 by omega), if_pos hk] at h
  by_cases ho : op = 1
  · rw [if_pos ho] at h
    by_cases h3 : nI (S.1 d 3) = 0
    · rw [if_pos h3] at h; exact absurd h (by decide)
    · exact ⟨ho, Nat.pos_of_ne_zero (fun z => h3 (by rw [z]; rfl))⟩
  · rw [if_neg ho] at h; exact absurd h (by decide)
theorem um_df_W {S : um_S} {d : Nat} {op m x : Int32} (hk : um_kind d = 3) (h : um_df S d op m x = 0) : op = 2 ∨ (op = 0 ∧ d = 18 ∧ m = 0) := by
  unfold um_df um_fW at h
  rw [if_neg (show ¬ um_kind d = 0 by omega), if_neg (show ¬ um_kind d = 1 by omega), if_neg (show ¬ um_kind d = 2 by omega)] at h
  by_cases h2 : op = 2
  · exact Or.inl h2
  · rw [if_neg h2] at h
    by_cases h0 : op = 0
    · rw [if_pos h0] at h
      by_cases h18 : d = 18
      · rw [if_pos h18, if_neg (by decide)] at h
        by_cases hm : m = 0
        · exact Or.inr ⟨h0, h18, hm⟩
        · rw [if_neg hm] at h; exact absurd h (by decide)
      · rw [if_neg h18, if_pos rfl] at h; exact absurd h (by decide)
    · rw [if_neg h0] at h; exact absurd h (by decide)
theorem um_opS_some {S : um_S} {u op m x : Int32} {d : Nat} (h : um_un u = some d) : um_opS S u op m x = if um_flt S d op m x = 0 then um_wk (um_bgn S d) d op m x else S := by
  unfold um_opS
  rw [h]
theorem um_opS_none {S : um_S} {u op m x : Int32} (h : um_un u = none) : um_opS S u op m x = S := by
  unfold um_opS
  rw [h]
theorem um_opr_some {S : um_S} {u op m x : Int32} {d : Nat} (h : um_un u = some d) : um_opr S u op m x = um_flt S d op m x := by
  unfold um_opr
  rw [h]
theorem um_opr_none {S : um_S} {u op m x : Int32} (h : um_un u = none) : um_opr S u op m x = um_fltN op m := by
  unfold um_opr
  rw [h]
section UMO
variable {E : ur_Ev} {a : um_Ad} {S T : um_S} {h h2 : ur_M} {d : Nat}
theorem um_R.begin (hR : um_R E a (um_sA T 20 0 (T.1 20 0 + 1)) h) (hk : um_kind d ≠ 4) (hT : um_goTo S (max (S.1 20 2) (S.1 d 4)) = T) (e : h2 = va_up h (a.1 d 0) (some (.inr (um_ci d, .int (nI (um_words d)) :: .ref (a.1 d 1) :: .int (nI (um_dur d)) :: .long (lN ((um_sA T 20 0 (T.1 20 0 + 1)).1 20 2) + (nI (um_dur d)).toInt64) :: .int (nI ((um_sA T 20 0 (T.1 20 0 + 1)).1 d 0)) :: .int (nI ((um_sA T 20 0 (T.1 20 0 + 1)).1 20 0)) :: .int (nI ((um_sA T 20 0 (T.1 20 0 + 1)).1 d 5)) :: um_tl a (um_sA T 20 0 (T.1 20 0 + 1)) d)))) : um_R E a (um_bgn S d) h2 := by
  have hd := um_d20 hk
  have e0 : T.1 20 0 = S.1 20 0 := by
    rw [← hT]
    unfold um_goTo
    rw [um_go_core]
    exact um_sA_n S (by decide)
  have e2 : T.1 20 2 = max (S.1 20 2) (S.1 d 4) := by rw [← hT, um_goTo_now]
  have hdur : um_dur d < 2 ^ 31 := by
    unfold um_dur
    repeat' split
    all_goals decide
  unfold um_bgn
  rw [hT, ← e0, ← e2, e]
  refine um_R.obj (d := d) hR hk (fun p q n => ?_) ?_ (fun q3 b hb => ?_) ?_
  · rw [um_sA_n _ (fun z => n ⟨z.1, by omega⟩), um_sA_n _ (fun z => n ⟨z.1, by omega⟩)]
  · rfl
  · rw [um_sA_n _ (by omega), um_sA_n _ (by omega)] at hb
    rw [um_sA_n _ (by omega), um_sA_n _ (by omega)]
    exact hR.2.2.2 d b q3 hb
  · rw [nI_l hdur, lN_add]
    unfold um_dev um_tl
    simp [um_sA]
end UMO
