/-! the class's state and the reference's: the relation -/
def rl_u (p : Nat) : Nat := if p < 4 then p else if p < 6 then p + 4 else p + 10
theorem rl_ut : ∀ p, p < 10 → um_kind (rl_u p) ≠ 4 ∧ rl_u p < 20 ∧ fo_ws (nI p) = nI (um_words (rl_u p)) ∧ (fo_tm (nI p)).toInt64 = lN (um_dur (rl_u p)) ∧ um_dur (rl_u p) ≤ 1500 ∧ 0 < um_dur (rl_u p) ∧ (p < 4 → rl_u p = p ∧ um_kind p = 0) ∧ (4 ≤ p → p < 6 → um_kind (rl_u p) = 1) ∧ (p = 6 → rl_u p = 16) ∧ (7 ≤ p → rl_u p = p + 10 ∧ um_kind (rl_u p) = 3) := by decide +kernel
theorem rl_inj : ∀ p, p < 10 → ∀ q, q < 10 → rl_u p = rl_u q → p = q := by decide +kernel
theorem rl_sur : ∀ d, d < 20 → um_kind d ≠ 4 → ∃ p, p < 10 ∧ d = rl_u p := by decide +kernel
def rl_N (n : Nat) (S : um_S) : Prop := um_Bd S ∧ um_Ok S ∧ (∀ u, um_due S u = false) ∧ S.1 20 2 ≤ 10000 * n ∧ (∀ d, S.1 d 4 ≤ 10000 * n) ∧ S.1 20 0 ≤ n
def rl_num (S : um_S) (T : fo_S) : Prop := T.1 = (lN (S.1 20 2), nI (S.1 20 0), nI (S.1 16 3), nI (S.1 20 1))
def rl_mem (f g : Nat → Int32) : Prop := ∀ j, j < 4000 → f j = fo_told (g j)
def rl_blk (S : um_S) (g : Nat → Int32) : Prop := ∀ p b i, p < 6 → b < 64 → i < 100 → S.2 (rl_u p) (3 + b) i = fo_told (g (100 * (64 * p + b) + i))
def rl_std (S : um_S) (g : Nat → Int32) : Prop := ∀ p, p < 4 → g p = nI (S.1 p 2)
def rl_fre (S : um_S) (J : Nat → Int64) : Prop := ∀ p, p < 10 → J p = lN (S.1 (rl_u p) 4)
def rl_com (S : um_S) (g : Nat → Int32) : Prop := ∀ p, p < 10 → g p = nI (S.1 (rl_u p) 0)
def rl_pnd (S : um_S) (T : fo_S) : Prop := ∀ p, p < 10 → S.1 (rl_u p) 0 ≠ 0 → T.2.2 6 p = nI (S.1 (rl_u p) 5) ∧ S.1 (rl_u p) 5 + um_words (rl_u p) ≤ 4000 ∧ (∃ k, T.2.2 7 p = nI k ∧ S.1 (rl_u p) 1 = k + 1) ∧ ∀ i, i < um_words (rl_u p) → S.2 (rl_u p) 1 i = fo_told (T.2.2 8 (100 * p + i))
def rl_crd (S : um_S) (T : fo_S) : Prop := ∀ c w, c < S.1 16 3 → w < 16 → S.2 16 2 ((S.1 16 2 + c) % 100 * 16 + w) = fo_cw (T.2.2 14) (T.2.2 9) (80 * c + 5 * w)
def rl_lin (S : um_S) (T : fo_S) : Prop := ∀ l, l < 3 → T.2.2 10 l = nI (S.1 (17 + l) 2)
def rl_let (S : um_S) (T : fo_S) : Prop := (∀ l k, l < 3 → k < S.1 (17 + l) 2 → T.2.2 11 (300 * l + k) = nI (S.1 (17 + l) (6 + k)) ∧ S.1 (17 + l) (6 + k) ≤ 120 ∧ ∀ i, i < S.1 (17 + l) (6 + k) → S.2 (17 + l) (3 + k) i = T.2.2 12 (120 * (300 * l + k) + i)) ∧ ∀ j, j < 900 → T.2.2 11 j ≤ 120
def rl_tap (S : um_S) (T : fo_S) : Prop := ∀ k, k < S.1 20 1 → S.2 20 4 k &&& 255 = T.2.2 13 k
def RL (n : Nat) (S : um_S) (T : fo_S) : Prop := rl_N n S ∧ rl_num S T ∧ rl_mem (S.2 20 2) (T.2.2 1) ∧ rl_blk S (T.2.2 2) ∧ rl_std S (T.2.2 3) ∧ rl_fre S T.2.1 ∧ rl_com S (T.2.2 5) ∧ rl_pnd S T ∧ rl_crd S T ∧ rl_lin S T ∧ rl_let S T ∧ rl_tap S T ∧ T.2.2 14 = fo_alp 56
/-! which unit -/
theorem rl_in {x : Int32} {j n : Nat} (hx : x = nI j) (hj : j < 2 ^ 31) (hn : n < 2 ^ 31) : fo_in x 0 (nI n) = decide (j ≤ n) := by
  subst hx
  unfold fo_in
  rw [if_neg (nI_pos hj)]
  by_cases q : j ≤ n
  · rw [decide_eq_true q, if_neg (nI_nlt q hn)]
  · rw [decide_eq_false q, if_pos (nI_lt (by omega) hj)]
theorem rl_in_neg {x hi : Int32} (h : x < 0) : fo_in x 0 hi = false := by
  unfold fo_in
  rw [if_pos h]
theorem rl_pl20 : ∀ j, j < 20 → (um_un (nI j) = none ∧ fo_pl (nI j) = -1) ∨ ∃ p, p < 10 ∧ um_un (nI j) = some (rl_u p) ∧ fo_pl (nI j) = nI p ∧ nI j = nI (rl_u p) := by decide +kernel
theorem rl_pl (u : Int32) : (um_un u = none ∧ fo_pl u = -1) ∨ ∃ p, p < 10 ∧ um_un u = some (rl_u p) ∧ fo_pl u = nI p ∧ u = nI (rl_u p) := by
  by_cases h0 : u < 0
  · refine Or.inl ⟨if_pos h0, ?_⟩
    unfold fo_pl
    have e : ∀ lo hi : Int32, 0 ≤ lo → fo_in u lo hi = false := fun lo hi q => by
      unfold fo_in
      rw [if_pos (Int32.lt_of_lt_of_le h0 q)]
    rw [e 0 3 (by decide), e 8 9 (by decide), e 16 19 (by decide)]
    rfl
  · obtain ⟨j, hj, rfl⟩ := nI_of h0
    rcases Nat.lt_or_ge j 20 with q | q
    · exact rl_pl20 j q
    · refine Or.inl ⟨?_, ?_⟩
      · unfold um_un
        rw [if_neg h0, if_neg (show ¬ nI j < 20 from nI_nlt (b := 20) q hj)]
      · have e : ∀ lo hi : Nat, hi < 20 → fo_in (nI j) (nI lo) (nI hi) = false := fun lo hi z => by
          unfold fo_in
          by_cases c : nI j < nI lo
          · rw [if_pos c]
          · rw [if_neg c, if_pos (nI_lt (by omega) hj)]
        unfold fo_pl
        rw [show fo_in (nI j) 0 3 = false from e 0 3 (by decide), show fo_in (nI j) 8 9 = false from e 8 9 (by decide), show fo_in (nI j) 16 19 = false from e 16 19 (by decide)]
        rfl
theorem rl_holds (a : Int32) {n : Nat} (hn : n ≤ 4000) : um_holds a (nI n) = fo_in a 0 (4000 - nI n) := by
  rw [show (4000 : Int32) - nI n = nI (4000 - n) from pk_sub hn]
  by_cases h0 : a < 0
  · rw [rl_in_neg h0]; exact if_pos h0
  · obtain ⟨j, hj, rfl⟩ := nI_of h0
    rw [um_holds_iff hj hn, rl_in rfl hj (by omega)]
    by_cases q : j + n ≤ 4000
    · rw [decide_eq_true q, decide_eq_true (by omega)]
    · rw [decide_eq_false q, decide_eq_false (by omega)]
/-! what calls answer -/
section RLA
variable {n : Nat} {S : um_S} {T : fo_S}
theorem rl_word (h : rl_mem (S.2 20 2) (T.2.2 1)) (a : Int32) : um_at (S.2 20 2) a = fo_word (T.2.2 1) a := by
  unfold um_at fo_word
  rw [show um_holds a 1 = fo_in a 0 3999 from rl_holds a (n := 1) (by decide)]
  by_cases q : fo_in a 0 3999 = true
  · rw [if_pos q, if_pos q]
    obtain ⟨h0, h1, -⟩ := fo_in_iff (n := 3999) (by decide) q
    obtain ⟨j, hj, rfl⟩ := nI_of h0
    rw [nI_clamp hj]
    exact h j ((nI_ltI (b := 4000) hj (by decide)).mp h1)
  · rw [if_neg q, if_neg q]
theorem rl_cut (x y : Int32) : um_cutok x y = fo_in y 0 x ∧ um_cutn x y = fo_endn x y := by
  unfold um_cutok um_cutn fo_endn fo_in
  by_cases h0 : y < 0
  · rw [if_pos h0, if_pos h0, if_pos h0]; exact ⟨rfl, rfl⟩
  · rw [if_neg h0, if_neg h0, if_neg h0]
    by_cases h1 : y ≤ x
    · rw [if_pos h1, if_pos h1, if_neg (Int32.not_lt.mpr h1)]; exact ⟨rfl, rfl⟩
    · rw [if_neg h1, if_neg h1, if_pos (Int32.not_le.mp h1)]; exact ⟨rfl, rfl⟩
theorem rl_setok (a v : Int32) : um_setok a v = fo_sok a v := by
  unfold um_setok fo_sok
  rw [show um_holds a 1 = fo_in a 0 3999 from rl_holds a (n := 1) (by decide)]
  have e : (if v ≤ (-1073741824) then false else if v < 1073741824 then true else false) = fo_in v (-1073741823) 1073741823 := by
    unfold fo_in
    have a1 : (v ≤ (-1073741824)) ↔ v < (-1073741823) := by
      rw [Int32.le_iff_toInt_le, Int32.lt_iff_toInt_lt, show ((-1073741824 : Int32)).toInt = -1073741824 by decide, show ((-1073741823 : Int32)).toInt = -1073741823 by decide]
      omega
    have a2 : (v < 1073741824) ↔ ¬ 1073741823 < v := by
      rw [Int32.lt_iff_toInt_lt, Int32.lt_iff_toInt_lt, show ((1073741824 : Int32)).toInt = 1073741824 by decide, show ((1073741823 : Int32)).toInt = 1073741823 by decide]
      omega
    by_cases c1 : v ≤ (-1073741824)
    · rw [if_pos c1, if_pos (a1.mp c1)]
    · rw [if_neg c1, if_neg (fun z => c1 (a1.mpr z))]
      by_cases c2 : v < 1073741824
      · rw [if_pos c2, if_neg (a2.mp c2)]
      · rw [if_neg c2, if_pos (Decidable.not_not.mp (fun z => c2 (a2.mpr z)))]
  rw [e]
theorem rl_fillok (a k : Int32) : um_fillok a k = fo_fok a k := by
  unfold um_fillok fo_fok
  by_cases c1 : k < 1
  · rw [if_pos c1, if_neg (by unfold fo_in; rw [if_pos c1]; decide)]
  · rw [if_neg c1]
    by_cases c2 : 200 < k
    · rw [if_pos c2, if_neg (by unfold fo_in; rw [if_neg c1, if_pos c2]; decide)]
    · rw [if_neg c2, if_pos (by unfold fo_in; rw [if_neg c1, if_neg c2])]
      obtain ⟨j, hj, rfl⟩ := um_200 c1 c2
      exact rl_holds a (by omega)
theorem rl_busy (hB : um_Bd S) (hN : rl_num S T) (hF : rl_fre S T.2.1) (u : Int32) : um_busy S u = fo_bz T.2.1 T.1.1 u := by
  unfold um_busy fo_bz
  rcases rl_pl u with ⟨e1, e2⟩ | ⟨p, hp, e1, e2, -⟩
  · rw [e1, e2, if_pos (by decide)]
  · rw [e1, e2, if_neg (nI_pos (by omega)), nI_clamp (by omega), hF p hp, show T.1.1 = lN (S.1 20 2) by rw [hN]]
    show decide (S.1 20 2 < S.1 (rl_u p) 4) = _
    by_cases q : S.1 20 2 < S.1 (rl_u p) 4
    · rw [decide_eq_true q, if_neg (fun z => by have := (um_cmp_le (hB _ _) (hB _ _)).mp z; omega)]
    · rw [decide_eq_false q, if_pos ((um_cmp_le (hB _ _) (hB _ _)).mpr (by omega))]
theorem rl_add (k : Int32) : fo_add k = lN (um_dt k) ∧ um_dt k ≤ 10000 := by
  obtain ⟨e, hle⟩ := um_dt_e k
  refine ⟨?_, hle⟩
  have e2 : fo_add k = (nI (um_dt k)).toInt64 := by
    rw [← e]
    unfold fo_add
    by_cases h0 : 0 ≤ k
    · rw [if_pos h0]
      by_cases h1 : k ≤ 10000
      · rw [if_pos h1]
        by_cases h2 : k < 10000
        · rw [if_pos h2]
          by_cases h3 : 0 < k
          · rw [if_pos h3]
          · rw [if_neg h3, Int32.le_antisymm (Int32.not_lt.mp h3) h0]
        · rw [if_neg h2, if_pos (by decide), Int32.le_antisymm h1 (Int32.not_lt.mp h2)]
      · rw [if_neg h1, if_neg (fun z => h1 (Int32.le_of_lt z)), if_pos (by decide)]
    · rw [if_neg h0, if_pos (Int32.lt_trans (Int32.not_le.mp h0) (by decide)), if_neg (fun z => h0 (Int32.le_of_lt z))]
  rw [e2, nI_l (by omega)]
theorem rl_unit (hN : rl_num S T) (hS : rl_std S (T.2.2 3)) (hL : rl_lin S T) (u : Int32) : um_unit S u = fo_un (T.2.2 3) (T.2.2 10) T.1.2.2.1 (fo_pl u) := by
  unfold um_unit fo_un
  rcases rl_pl u with ⟨e1, e2⟩ | ⟨p, hp, e1, e2, -⟩
  · rw [e1, e2, if_pos (by decide)]
  · rw [e1, e2, if_neg (nI_pos (by omega))]
    obtain ⟨-, -, -, -, -, -, t0, t1, t2, t3⟩ := rl_ut p hp
    show um_tell S (rl_u p) = _
    unfold um_tell
    rcases (show p < 4 ∨ p = 4 ∨ p = 5 ∨ p = 6 ∨ 7 ≤ p by omega) with c | rfl | rfl | rfl | c
    · obtain ⟨a, b⟩ := t0 c
      rw [a, b, if_neg (by decide), if_neg (by decide), if_neg (fun z => by have := (nI_eq (b := 4) (by omega) (by decide)).mp z; omega), if_neg (fun z => by have := (nI_eq (b := 5) (by omega) (by decide)).mp z; omega), if_neg (show ¬ (4 : Int32) ≤ nI p from nI_ge (b := 4) c (by decide)), nI_clamp (by omega), hS p c]
    · rw [if_pos (show um_kind (rl_u 4) = 1 by decide), if_pos (show nI 4 = 4 by decide)]
    · rw [if_pos (show um_kind (rl_u 5) = 1 by decide), if_neg (show ¬ nI 5 = 4 by decide), if_pos (show nI 5 = 5 by decide)]
    · rw [t2 rfl, hN]; rfl
    · obtain ⟨a, b⟩ := t3 c
      rw [a] at b
      rw [a, b, if_neg (by decide), if_neg (by decide), if_neg (fun z => by have := (nI_eq (b := 4) (by omega) (by decide)).mp z; omega), if_neg (fun z => by have := (nI_eq (b := 5) (by omega) (by decide)).mp z; omega), if_pos (show (4 : Int32) ≤ nI p from nI_le (a := 4) (by omega) (by omega)), if_neg (fun z => by have := (nI_eq (b := 6) (by omega) (by decide)).mp z; omega), show nI p - 7 = nI (p - 7) from pk_sub (b := 7) c, nI_clamp (by omega), hL (p - 7) (by omega), show 17 + (p - 7) = p + 10 by omega]
theorem rl_block (hK : rl_blk S (T.2.2 2)) (u b i : Int32) : um_blck S u b i = fo_bl (T.2.2 2) (fo_pl u) b i := by
  unfold um_blck fo_bl
  rcases rl_pl u with ⟨e1, e2⟩ | ⟨p, hp, e1, e2, -⟩
  · rw [e1, e2, if_neg (by decide)]
  · rw [e1, e2, show fo_in (nI p) 0 5 = decide (p ≤ 5) from rl_in rfl (by omega) (by decide)]
    show (if um_kind (rl_u p) ≤ 1 then um_wordAt (fun b => S.2 (rl_u p) (3 + b)) b i else 2147483647) = _
    obtain ⟨-, -, -, -, -, -, t0, t1, t2, t3⟩ := rl_ut p hp
    by_cases c : p ≤ 5
    · have hk : um_kind (rl_u p) ≤ 1 := by
        rcases Nat.lt_or_ge p 4 with q | q
        · obtain ⟨a, b⟩ := t0 q; rw [a, b]; decide
        · rw [t1 q (by omega)]; decide
      rw [if_pos hk, decide_eq_true c, if_pos rfl]
      unfold um_wordAt
      by_cases b0 : b < 0
      · rw [if_pos b0, show fo_in b 0 63 = false from rl_in_neg b0, if_neg (by decide)]
      · rw [if_neg b0]
        obtain ⟨x, hx, rfl⟩ := nI_of b0
        rw [show fo_in (nI x) 0 63 = decide (x ≤ 63) from rl_in rfl hx (by decide)]
        by_cases b1 : x ≤ 63
        · rw [if_neg (show ¬ (64 : Int32) ≤ nI x from nI_ge (b := 64) (by omega) (by decide)), decide_eq_true b1, if_pos rfl]
          by_cases i0 : i < 0
          · rw [if_pos i0, show fo_in i 0 99 = false from rl_in_neg i0, if_neg (by decide)]
          · rw [if_neg i0]
            obtain ⟨y, hy, rfl⟩ := nI_of i0
            rw [show fo_in (nI y) 0 99 = decide (y ≤ 99) from rl_in rfl hy (by decide)]
            by_cases i1 : y ≤ 99
            · rw [if_pos (show nI y < 100 from nI_lt (b := 100) (by omega) (by decide)), decide_eq_true i1, if_pos rfl, nI_clamp hx, nI_clamp hy, show (64 : Int32) = nI 64 from rfl, show (100 : Int32) = nI 100 from rfl, pk_mul, nI_add, pk_mul, nI_add, nI_clamp (by omega)]
              exact hK p x y (by omega) (by omega) (by omega)
            · rw [if_neg (show ¬ nI y < 100 from nI_nlt (b := 100) (by omega) hy), decide_eq_false i1, if_neg (by decide)]
        · rw [if_pos (show (64 : Int32) ≤ nI x from nI_le (a := 64) (by omega) hx), decide_eq_false b1, if_neg (by decide)]
    · have hk : ¬ um_kind (rl_u p) ≤ 1 := by
        rcases (show p = 6 ∨ 7 ≤ p by omega) with rfl | q
        · decide
        · rw [(t3 q).2]; decide
      rw [if_neg hk, decide_eq_false c, if_neg (by decide)]
theorem rl_letter (hO : um_Ok S) (hL : rl_lin S T) (hE : rl_let S T) (u k i : Int32) : um_letr S u k i = fo_lr (T.2.2 10) (T.2.2 11) (T.2.2 12) u k i := by
  unfold um_letr fo_lr
  rcases rl_pl u with ⟨e1, e2⟩ | ⟨p, hp, e1, e2, e3⟩
  · rw [e1]
    have : ¬ fo_in u 17 19 = true := fun z => by
      obtain ⟨j, hj, e⟩ := fo_w3 z
      have e' : u = nI (17 + j) := by
        have : u = u - 17 + 17 := by simp
        rw [this, e, show (17 : Int32) = nI 17 from rfl, nI_add, Nat.add_comm]
      have hs : um_un u = some (17 + j) := by
        rw [e']
        rcases (show j = 0 ∨ j = 1 ∨ j = 2 by omega) with rfl | rfl | rfl <;> decide
      rw [e1] at hs
      cases hs
    rw [if_neg this]
  · rw [e1]
    show (if um_kind (rl_u p) = 3 then um_lAt (fun b => S.1 (rl_u p) (6 + b)) (fun b => S.2 (rl_u p) (3 + b)) (S.1 (rl_u p) 2) k i else -1) = _
    obtain ⟨-, -, -, -, -, -, t0, t1, t2, t3⟩ := rl_ut p hp
    by_cases c : 7 ≤ p
    · obtain ⟨a, b⟩ := t3 c
      obtain ⟨l, hl, rfl⟩ : ∃ l, l < 3 ∧ p = 7 + l := ⟨p - 7, by omega, by omega⟩
      have a' : rl_u (7 + l) = 17 + l := by rw [a]; omega
      rw [if_pos b, e3, a', show fo_in (nI (17 + l)) 17 19 = true from (by rcases (show l = 0 ∨ l = 1 ∨ l = 2 by omega) with rfl | rfl | rfl <;> decide), if_pos rfl, show nI (17 + l) - 17 = nI l from (by rw [show (17 : Int32) = nI 17 from rfl, pk_sub (by omega), show 17 + l - 17 = l by omega]), nI_clamp (show l < 2 ^ 31 by omega), hL l hl]
      unfold um_lAt
      by_cases k0 : k < 0
      · rw [if_pos k0, if_pos k0]
      · rw [if_neg k0, if_neg k0]
        obtain ⟨x, hx, rfl⟩ := nI_of k0
        have h300 : S.1 (17 + l) 2 ≤ 300 := hO.2.1 (17 + l) (by rw [← a']; exact b)
        by_cases k1 : nI (S.1 (17 + l) 2) ≤ nI x
        · rw [if_pos k1, if_pos k1]
        · rw [if_neg k1, if_neg k1]
          have hxl : x < S.1 (17 + l) 2 := Nat.not_le.mp (fun z => k1 (nI_le z hx))
          rw [if_pos (show nI x < 300 from nI_lt (b := 300) (by omega) (by decide)), if_pos (show nI x < 300 from nI_lt (b := 300) (by omega) (by decide))]
          by_cases i0 : i < 0
          · rw [if_pos i0, if_pos i0]
          · rw [if_neg i0, if_neg i0]
            obtain ⟨y, hy, rfl⟩ := nI_of i0
            obtain ⟨f1, f2, f3⟩ := hE.1 l x hl hxl
            rw [nI_clamp hx, nI_clamp hy, fo_300l, nI_clamp (show 300 * l + x < 2 ^ 31 by omega), f1]
            show (if nI y < nI (S.1 (17 + l) (6 + x)) then S.2 (17 + l) (3 + x) y else -1) = _
            by_cases i1 : y < S.1 (17 + l) (6 + x)
            · rw [if_pos (nI_lt i1 (by omega)), if_neg (nI_ge i1 (by omega)), fo_120k, nI_clamp (by omega), f3 y i1]
            · rw [if_neg (nI_nlt (by omega) hy), if_pos (nI_le (by omega) hy)]
    · have hk : ¬ um_kind (rl_u p) = 3 := by
        rcases (show p < 4 ∨ (4 ≤ p ∧ p < 6) ∨ p = 6 by omega) with q | q | rfl
        · obtain ⟨a, b⟩ := t0 q; rw [a, b]; decide
        · rw [t1 q.1 q.2]; decide
        · decide
      rw [if_neg hk, e3, if_neg]
      have : ∀ p, p < 7 → ¬ fo_in (nI (rl_u p)) 17 19 = true := by decide +kernel
      exact this p (by omega)
end RLA
