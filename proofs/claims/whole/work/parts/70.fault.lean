/-! the faults: both answer the same -/
theorem rl_10 : ((1 : Int32) = 0) = False := eq_false (by decide)
theorem rl_20 : ((2 : Int32) = 0) = False := eq_false (by decide)
theorem rl_01 : ((0 : Int32) = 1) = False := eq_false (by decide)
theorem rl_21 : ((2 : Int32) = 1) = False := eq_false (by decide)
theorem rl_02 : ((0 : Int32) = 2) = False := eq_false (by decide)
theorem rl_12 : ((1 : Int32) = 2) = False := eq_false (by decide)
theorem rl_1le : ((1 : Int32) ≤ 0) = False := eq_false (by decide)
theorem rl_2le : ((2 : Int32) ≤ 0) = False := eq_false (by decide)
theorem rl_0le : ((0 : Int32) ≤ 0) = True := eq_true (by decide)
theorem rl_0lt : ((0 : Int32) < 0) = False := eq_false (by decide)
theorem rl_1lt : ((0 : Int32) < 1) = True := eq_true (by decide)
theorem rl_2lt : ((0 : Int32) < 2) = True := eq_true (by decide)
theorem rl_x63 (x : Int32) : (if x < 0 then (6 : Int32) else if x < 64 then 0 else 6) = if fo_in x 0 63 = true then 0 else 6 := by
  by_cases h0 : x < 0
  · rw [if_pos h0, rl_in_neg h0, if_neg (by decide)]
  · rw [if_neg h0]
    obtain ⟨j, hj, rfl⟩ := nI_of h0
    rw [show fo_in (nI j) 0 63 = decide (j ≤ 63) from rl_in rfl hj (by decide)]
    by_cases c : j ≤ 63
    · rw [decide_eq_true c, if_pos rfl, if_pos (show nI j < 64 from nI_lt (b := 64) (by omega) (by decide))]
    · rw [decide_eq_false c, if_neg (show ¬ nI j < 64 from nI_nlt (b := 64) (by omega) hj), if_neg (by decide)]
theorem rl_ge {a p : Nat} (h : a ≤ p) (hp : p < 10) : nI a ≤ nI p := nI_le h (by omega)
theorem rl_nge {a p : Nat} (h : p < a) (ha : a < 10) : ¬ nI a ≤ nI p := nI_ge h (by omega)
theorem rl_nep {a p : Nat} (h : p ≠ a) (hp : p < 10) (ha : a < 10) : ¬ nI p = nI a := fun z => h ((nI_eq (by omega) (by omega)).mp z)
section RLF
variable {n : Nat} {S : um_S} {T : fo_S}
theorem rl_dfT (hO : um_Ok S) (hS : rl_std S (T.2.2 3)) {p : Nat} (hp : p < 4) (op m x : Int32) (ho : op = 0 ∨ op = 1 ∨ op = 2) : um_df S (rl_u p) op m x = fo_fr (T.2.2 3) T.1.2.2.1 (nI p) op m x := by
  obtain ⟨-, -, -, -, -, -, t0, -, -, -⟩ := rl_ut p (by omega)
  obtain ⟨e, k⟩ := t0 hp
  have n4 : ¬ (4 : Int32) ≤ nI p := rl_nge (a := 4) hp (by decide)
  rw [e]
  unfold um_df fo_fr fo_can fo_fn um_fT
  rw [if_pos k, if_neg (nI_pos (by omega)), if_neg n4, if_neg n4, if_pos rfl, nI_clamp (by omega), hS p hp]
  have h64 := hO.1 p k
  have key : (if nI (S.1 p 2) < 64 then (0 : Int32) else 6) = if nI (S.1 p 2) = 64 then 6 else 0 := by
    by_cases c : S.1 p 2 = 64
    · rw [c]; decide
    · rw [if_pos (show nI (S.1 p 2) < 64 from nI_lt (b := 64) (by omega) (by decide)), if_neg (show ¬ nI (S.1 p 2) = 64 from fun z => c ((nI_eq (b := 64) (by omega) (by decide)).mp z))]
  rcases ho with rfl | rfl | rfl
  · rfl
  · simp only [rl_10, rl_20, rl_01, rl_21, rl_02, rl_12, rl_1le, rl_2le, rl_0le, rl_0lt, rl_1lt, rl_2lt, ↓reduceIte, Bool.false_eq_true]; exact key
  · simp only [rl_10, rl_20, rl_01, rl_21, rl_02, rl_12, rl_1le, rl_2le, rl_0le, rl_0lt, rl_1lt, rl_2lt, ↓reduceIte, Bool.false_eq_true]; exact key
theorem rl_dfK {p : Nat} (h4 : 4 ≤ p) (h6 : p < 6) (op m x : Int32) (ho : op = 0 ∨ op = 1 ∨ op = 2) : um_df S (rl_u p) op m x = fo_fr (T.2.2 3) T.1.2.2.1 (nI p) op m x := by
  obtain ⟨-, -, -, -, -, -, -, t1, -, -⟩ := rl_ut p (by omega)
  have k := t1 h4 h6
  have y4 : (4 : Int32) ≤ nI p := rl_ge (a := 4) h4 (by omega)
  have n6 : ¬ (6 : Int32) ≤ nI p := rl_nge (a := 6) h6 (by decide)
  unfold um_df fo_fr fo_can fo_fn um_fK
  rw [if_neg (show ¬ um_kind (rl_u p) = 0 by omega), if_pos k, if_neg (nI_pos (by omega)), if_pos y4, if_neg n6, if_pos y4, if_neg n6, rl_x63]
  rcases ho with rfl | rfl | rfl
  · by_cases c : m = 0
    · simp only [eq_true c, rl_10, rl_20, rl_01, rl_21, rl_02, rl_12, rl_1le, rl_2le, rl_0le, rl_0lt, rl_1lt, rl_2lt, ↓reduceIte, Bool.false_eq_true]
    · simp only [eq_false c, rl_10, rl_20, rl_01, rl_21, rl_02, rl_12, rl_1le, rl_2le, rl_0le, rl_0lt, rl_1lt, rl_2lt, ↓reduceIte, Bool.false_eq_true]
  · simp only [rl_10, rl_20, rl_01, rl_21, rl_02, rl_12, rl_1le, rl_2le, rl_0le, rl_0lt, rl_1lt, rl_2lt, ↓reduceIte, Bool.false_eq_true]
  · simp only [rl_10, rl_20, rl_01, rl_21, rl_02, rl_12, rl_1le, rl_2le, rl_0le, rl_0lt, rl_1lt, rl_2lt, ↓reduceIte, Bool.false_eq_true]
theorem rl_dfR (hN : rl_num S T) (op m x : Int32) (ho : op = 0 ∨ op = 1 ∨ op = 2) : um_df S (rl_u 6) op m x = fo_fr (T.2.2 3) T.1.2.2.1 (nI 6) op m x := by
  rw [show T.1.2.2.1 = nI (S.1 16 3) by rw [hN]]
  unfold um_df fo_fr fo_can fo_fn um_fR
  rw [if_neg (show ¬ um_kind (rl_u 6) = 0 by decide), if_neg (show ¬ um_kind (rl_u 6) = 1 by decide), if_pos (show um_kind (rl_u 6) = 2 by decide), if_neg (show ¬ nI 6 < 0 by decide), if_pos (show (4 : Int32) ≤ nI 6 by decide), if_pos (show (6 : Int32) ≤ nI 6 by decide), if_pos (show nI 6 = 6 by decide), if_pos (show (4 : Int32) ≤ nI 6 by decide), if_pos (show (6 : Int32) ≤ nI 6 by decide), if_pos (show nI 6 = 6 by decide), show rl_u 6 = 16 from rfl]
  rcases ho with rfl | rfl | rfl
  · simp only [rl_10, rl_20, rl_01, rl_21, rl_02, rl_12, rl_1le, rl_2le, rl_0le, rl_0lt, rl_1lt, rl_2lt, ↓reduceIte, Bool.false_eq_true]
  · simp only [rl_10, rl_20, rl_01, rl_21, rl_02, rl_12, rl_1le, rl_2le, rl_0le, rl_0lt, rl_1lt, rl_2lt, ↓reduceIte, Bool.false_eq_true]
  · simp only [rl_10, rl_20, rl_01, rl_21, rl_02, rl_12, rl_1le, rl_2le, rl_0le, rl_0lt, rl_1lt, rl_2lt, ↓reduceIte, Bool.false_eq_true]
theorem rl_dfW {p : Nat} (h7 : 7 ≤ p) (hp : p < 10) (op m x : Int32) (ho : op = 0 ∨ op = 1 ∨ op = 2) : um_df S (rl_u p) op m x = fo_fr (T.2.2 3) T.1.2.2.1 (nI p) op m x := by
  obtain ⟨-, -, -, -, -, -, -, -, -, t3⟩ := rl_ut p (by omega)
  obtain ⟨e, k⟩ := t3 h7
  have y4 : (4 : Int32) ≤ nI p := rl_ge (a := 4) (by omega) hp
  have y6 : (6 : Int32) ≤ nI p := rl_ge (a := 6) (by omega) hp
  have n6 : ¬ nI p = 6 := rl_nep (a := 6) (by omega) hp (by decide)
  unfold um_df fo_fr fo_can fo_fn um_fW
  rw [if_neg (show ¬ um_kind (rl_u p) = 0 by omega), if_neg (show ¬ um_kind (rl_u p) = 1 by omega), if_neg (show ¬ um_kind (rl_u p) = 2 by omega), if_neg (nI_pos (by omega)), if_pos y4, if_pos y6, if_neg n6, if_pos y4, if_pos y6, if_neg n6]
  have e8 : (rl_u p = 18) ↔ p = 8 := by rw [e]; omega
  rcases ho with rfl | rfl | rfl
  · by_cases c : p = 8
    · have c8 : nI p = 8 := by rw [c]; decide
      by_cases cm : m = 0
      · simp only [eq_true (e8.mpr c), eq_true c8, eq_true cm, rl_10, rl_20, rl_01, rl_21, rl_02, rl_12, rl_1le, rl_2le, rl_0le, rl_0lt, rl_1lt, rl_2lt, ↓reduceIte, Bool.false_eq_true]
      · simp only [eq_true (e8.mpr c), eq_true c8, eq_false cm, rl_10, rl_20, rl_01, rl_21, rl_02, rl_12, rl_1le, rl_2le, rl_0le, rl_0lt, rl_1lt, rl_2lt, ↓reduceIte, Bool.false_eq_true]
    · have c8 : ¬ nI p = 8 := rl_nep (a := 8) c hp (by decide)
      simp only [eq_false (fun z => c (e8.mp z)), eq_false c8, rl_10, rl_20, rl_01, rl_21, rl_02, rl_12, rl_1le, rl_2le, rl_0le, rl_0lt, rl_1lt, rl_2lt, ↓reduceIte, Bool.false_eq_true]
  · by_cases c : nI p = 8
    · simp only [eq_true c, rl_10, rl_20, rl_01, rl_21, rl_02, rl_12, rl_1le, rl_2le, rl_0le, rl_0lt, rl_1lt, rl_2lt, ↓reduceIte, Bool.false_eq_true]
    · simp only [eq_false c, rl_10, rl_20, rl_01, rl_21, rl_02, rl_12, rl_1le, rl_2le, rl_0le, rl_0lt, rl_1lt, rl_2lt, ↓reduceIte, Bool.false_eq_true]
  · simp only [rl_10, rl_20, rl_01, rl_21, rl_02, rl_12, rl_1le, rl_2le, rl_0le, rl_0lt, rl_1lt, rl_2lt, ↓reduceIte, Bool.false_eq_true]
theorem rl_flt (hO : um_Ok S) (hN : rl_num S T) (hS : rl_std S (T.2.2 3)) {p : Nat} (hp : p < 10) (op m x : Int32) : um_flt S (rl_u p) op m x = fo_flt (T.2.2 3) T.1.2.2.1 (nI p) op m x := by
  have hdf : (op = 0 ∨ op = 1 ∨ op = 2) → um_df S (rl_u p) op m x = fo_fr (T.2.2 3) T.1.2.2.1 (nI p) op m x := fun ho => by
    rcases (show p < 4 ∨ (4 ≤ p ∧ p < 6) ∨ p = 6 ∨ 7 ≤ p by omega) with c | c | rfl | c
    · exact rl_dfT hO hS c op m x ho
    · exact rl_dfK c.1 c.2 op m x ho
    · exact rl_dfR hN op m x ho
    · exact rl_dfW c hp op m x ho
  have hw := um_words_le (rl_u p)
  unfold um_flt fo_flt
  by_cases h0 : op < 0
  · rw [if_pos h0, rl_in_neg h0, if_neg (by decide)]
  · rw [if_neg h0]
    by_cases h2 : op ≤ 2
    · have ho := um_op3 h0 h2
      rw [if_pos h2, if_pos (show fo_in op 0 2 = true by unfold fo_in; rw [if_neg h0, if_neg (Int32.not_lt.mpr h2)]), if_pos (nI_pos' (show p < 2 ^ 31 by omega)), hdf ho, (rl_ut p hp).2.2.1, ← rl_holds m (by omega)]
      rcases ho with rfl | rfl | rfl
      · simp only [rl_10, rl_20, rl_01, rl_21, rl_02, rl_12, rl_1le, rl_2le, rl_0le, rl_0lt, rl_1lt, rl_2lt, ↓reduceIte, Bool.false_eq_true]
      · simp only [rl_10, rl_20, rl_01, rl_21, rl_02, rl_12, rl_1le, rl_2le, rl_0le, rl_0lt, rl_1lt, rl_2lt, ↓reduceIte, Bool.false_eq_true]
      · simp only [rl_10, rl_20, rl_01, rl_21, rl_02, rl_12, rl_1le, rl_2le, rl_0le, rl_0lt, rl_1lt, rl_2lt, ↓reduceIte, Bool.false_eq_true]
    · rw [if_neg h2, if_neg (by unfold fo_in; rw [if_neg h0, if_pos (Int32.not_le.mp h2)]; decide)]
theorem rl_fltN (st : Nat → Int32) (cds op m x : Int32) : um_fltN op m = fo_flt st cds (-1) op m x ∧ 0 < um_fltN op m := by
  unfold um_fltN fo_flt
  have e5 : ∀ o : Int32, fo_fr st cds (-1) o m x = 5 := fun o => if_pos (by decide)
  by_cases h0 : op < 0
  · rw [if_pos h0, rl_in_neg h0, if_neg (by decide)]; decide
  · rw [if_neg h0]
    by_cases h2 : op ≤ 2
    · have ho := um_op3 h0 h2
      rw [if_pos h2, if_pos (show fo_in op 0 2 = true by unfold fo_in; rw [if_neg h0, if_neg (Int32.not_lt.mpr h2)]), if_neg (show ¬ (0 : Int32) ≤ -1 by decide), e5, show (4000 : Int32) - 1 = 4000 - nI 1 from rfl, ← rl_holds m (n := 1) (by decide), show nI 1 = 1 from rfl]
      have k2 : (0 : Int32) < (if um_holds m 1 = true then 5 else 2) := by
        by_cases c : um_holds m 1 = true
        · rw [if_pos c]; decide
        · rw [if_neg c]; decide
      rcases ho with rfl | rfl | rfl
      · simp only [rl_10, rl_20, rl_01, rl_21, rl_02, rl_12, rl_1le, rl_2le, rl_0le, rl_0lt, rl_1lt, rl_2lt, ↓reduceIte, Bool.false_eq_true]; decide
      · simp only [rl_10, rl_20, rl_01, rl_21, rl_02, rl_12, rl_1le, rl_2le, rl_0le, rl_0lt, rl_1lt, rl_2lt, ↓reduceIte, Bool.false_eq_true]; exact ⟨trivial, k2⟩
      · simp only [rl_10, rl_20, rl_01, rl_21, rl_02, rl_12, rl_1le, rl_2le, rl_0le, rl_0lt, rl_1lt, rl_2lt, ↓reduceIte, Bool.false_eq_true]; exact ⟨trivial, k2⟩
    · rw [if_neg h2, if_neg (by unfold fo_in; rw [if_neg h0, if_pos (Int32.not_le.mp h2)]; decide)]; decide
theorem rl_flt_pos (S : um_S) (d : Nat) (op m x : Int32) (h : ¬ um_flt S d op m x = 0) : 0 < um_flt S d op m x := by
  have hdf : um_df S d op m x = 0 ∨ 0 < um_df S d op m x := by
    have k : ∀ c : Prop, [Decidable c] → ((if c then (0 : Int32) else 6) = 0 ∨ 0 < (if c then (0 : Int32) else 6)) := fun c _ => by
      by_cases q : c
      · rw [if_pos q]; exact Or.inl rfl
      · rw [if_neg q]; exact Or.inr (by decide)
    unfold um_df um_fT um_fK um_fR um_fW
    repeat' split
    all_goals first | exact Or.inl rfl | exact Or.inr (by decide)
  unfold um_flt at h ⊢
  by_cases h0 : op < 0
  · rw [if_pos h0]; decide
  · rw [if_neg h0] at h ⊢
    by_cases h2 : op ≤ 2
    · rw [if_pos h2] at h ⊢
      by_cases h3 : op = 0
      · rw [if_pos h3] at h ⊢; exact hdf.resolve_left h
      · rw [if_neg h3] at h ⊢
        by_cases h4 : um_holds m (nI (um_words d)) = true
        · rw [if_pos h4] at h ⊢; exact hdf.resolve_left h
        · rw [if_neg h4]; decide
    · rw [if_neg h2]; decide
end RLF
