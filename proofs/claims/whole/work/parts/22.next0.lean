/-! pure words: what is done by the time -/
def um_due (S : um_S) (u : Nat) : Bool := decide (um_kind u ≠ 4) && decide (S.1 u 0 ≠ 0) && decide (S.1 u 4 ≤ S.1 20 2)
def um_bef (S : um_S) (u v : Nat) : Bool := decide (S.1 u 4 < S.1 v 4) || (decide (S.1 u 4 = S.1 v 4) && decide (S.1 u 1 < S.1 v 1))
def um_take (S : um_S) (u : Nat) (o : Option Nat) : Bool := match o with
  | none => true
  | some v => um_bef S u v
/-- of the units below n the one that is done first -/
def um_nd (S : um_S) : Nat → Option Nat
  | 0 => none
  | u + 1 => if (um_due S u && um_take S u (um_nd S u)) = true then some u else um_nd S u
def um_dlv (S : um_S) (u : Nat) : um_S := um_sA (um_sF S 20 2 (um_cout (S.2 20 2) (S.2 u 1) (nI (S.1 u 5)) (um_words u))) u 0 0
def um_go : Nat → um_S → um_S
  | 0, S => S
  | n + 1, S => match um_nd S 20 with
    | none => S
    | some u => um_go n (um_dlv S u)
def um_goTo (S : um_S) (t : Nat) : um_S := um_go 20 (um_sA S 20 2 t)
theorem um_devs_no {a : um_Ad} {u : Nat} (h : um_kind u = 4) : um_devs a u = none := if_pos h
theorem um_devs_yes {a : um_Ad} {u : Nat} (h : ¬ um_kind u = 4) : um_devs a u = some (a.1 u 0) := if_neg h
theorem um_cmp {x y : Nat} (hx : x < 2 ^ 31) (hy : y < 2 ^ 31) : lg_cmp (lN x) (lN y) = if y < x then 1 else if x = y then 0 else -1 := by
  unfold lg_cmp
  have e1 : (lN x > lN y) ↔ y < x := lN_lt hy hx
  have e2 : (lN x = lN y) ↔ x = y := lN_eq hx hy
  by_cases h : y < x
  · rw [if_pos (e1.mpr h), if_pos h]
  · rw [if_neg (fun z => h (e1.mp z)), if_neg h]
    by_cases q : x = y
    · rw [if_pos (e2.mpr q), if_pos q]
    · rw [if_neg (fun z => q (e2.mp z)), if_neg q]
theorem um_cmp_gt {x y : Nat} (hx : x < 2 ^ 31) (hy : y < 2 ^ 31) : (0 < lg_cmp (lN x) (lN y)) ↔ y < x := by
  rw [um_cmp hx hy]
  by_cases h : y < x
  · rw [if_pos h]; exact ⟨fun _ => h, fun _ => by decide⟩
  · rw [if_neg h]
    by_cases q : x = y
    · rw [if_pos q]; exact ⟨fun z => absurd z (by decide), fun z => absurd z h⟩
    · rw [if_neg q]; exact ⟨fun z => absurd z (by decide), fun z => absurd z h⟩
theorem um_nd_f {S : um_S} {u : Nat} (h : um_due S u = false) : um_nd S (u + 1) = um_nd S u := by
  rw [um_nd, h, Bool.false_and]
  exact if_neg (by decide)
theorem um_nd_n {S : um_S} {u : Nat} (h : um_take S u (um_nd S u) = false) : um_nd S (u + 1) = um_nd S u := by
  rw [um_nd, h, Bool.and_false]
  exact if_neg (by decide)
theorem um_nd_t {S : um_S} {u : Nat} (h : um_due S u = true) (h2 : um_take S u (um_nd S u) = true) : um_nd S (u + 1) = some u := by
  rw [um_nd, h, h2]
  exact if_pos rfl
theorem um_due_4 {S : um_S} {u : Nat} (h : um_kind u = 4) : um_due S u = false := by
  unfold um_due
  rw [decide_eq_false (fun z => z h), Bool.false_and, Bool.false_and]
theorem um_due_0 {S : um_S} (hB : um_Bd S) {u : Nat} (h : nI (S.1 u 0) = 0) : um_due S u = false := by
  have : S.1 u 0 = 0 := (nI_eq (hB u 0) (by decide)).mp h
  unfold um_due
  rw [decide_eq_false (p := S.1 u 0 ≠ 0) (fun z => z this), Bool.and_false, Bool.false_and]
theorem um_due_c {S : um_S} (hB : um_Bd S) {u : Nat} (h : 0 < lg_cmp (lN (S.1 u 4)) (lN (S.1 20 2))) : um_due S u = false := by
  have := (um_cmp_gt (hB u 4) (hB 20 2)).mp h
  unfold um_due
  rw [decide_eq_false (p := S.1 u 4 ≤ S.1 20 2) (by omega), Bool.and_false]
theorem um_due_t {S : um_S} (hB : um_Bd S) {u : Nat} (hk : ¬ um_kind u = 4) (h1 : ¬ nI (S.1 u 0) = 0) (h2 : ¬ 0 < lg_cmp (lN (S.1 u 4)) (lN (S.1 20 2))) : um_due S u = true := by
  have e1 : S.1 u 0 ≠ 0 := fun z => h1 (by rw [z]; rfl)
  have e2 : S.1 u 4 ≤ S.1 20 2 := Nat.not_lt.mp (fun z => h2 ((um_cmp_gt (hB u 4) (hB 20 2)).mpr z))
  unfold um_due
  rw [decide_eq_true hk, decide_eq_true e1, decide_eq_true e2]
  rfl
theorem um_ahead_bef {S : um_S} (hB : um_Bd S) (u v : Nat) : um_ahead (lN (S.1 u 4)) (nI (S.1 u 1)) (lN (S.1 v 4)) (nI (S.1 v 1)) = um_bef S u v := by
  unfold um_ahead um_bef
  rw [um_cmp (hB u 4) (hB v 4)]
  by_cases h : S.1 v 4 < S.1 u 4
  · rw [if_pos h, if_neg (by decide), if_neg (by decide), decide_eq_false (by omega), decide_eq_false (by omega)]
    rfl
  · rw [if_neg h]
    by_cases q : S.1 u 4 = S.1 v 4
    · rw [if_pos q, if_neg (by decide), if_pos rfl, decide_eq_false (p := S.1 u 4 < S.1 v 4) (by omega), decide_eq_true q]
      by_cases z : nI (S.1 v 1) ≤ nI (S.1 u 1)
      · rw [if_pos z, decide_eq_false (by have := (nI_leI (hB v 1) (hB u 1)).mp z; omega)]
        rfl
      · rw [if_neg z, decide_eq_true (Nat.not_le.mp (fun w => z (nI_le w (hB u 1))))]
        rfl
    · rw [if_neg q, if_pos (by decide), decide_eq_true (p := S.1 u 4 < S.1 v 4) (by omega)]
      rfl
theorem um_nd_k {S : um_S} : ∀ {n v : Nat}, um_nd S n = some v → um_kind v ≠ 4 ∧ v < n ∧ um_due S v = true := by
  intro n
  induction n with
  | zero => intro v h; cases h
  | succ n ih =>
    intro v h
    by_cases q : (um_due S n && um_take S n (um_nd S n)) = true
    · rw [um_nd, if_pos q] at h
      cases h
      have q1 := (Bool.and_eq_true _ _ ▸ q).1
      refine ⟨fun z => ?_, Nat.lt_succ_self _, q1⟩
      rw [um_due_4 z] at q1
      cases q1
    · rw [um_nd, if_neg q] at h
      obtain ⟨h1, h2, h3⟩ := ih h
      exact ⟨h1, by omega, h3⟩
theorem um_k20' {u : Nat} (h : um_kind u ≠ 4) : u < 20 := by
  rcases Nat.lt_or_ge u 20 with q | q
  · exact q
  · exact absurd (by unfold um_kind; rw [if_neg (by omega), if_neg (by omega), if_neg (by omega), if_neg (by omega), if_neg (by omega), if_neg (by omega), if_neg (by omega)]) h
theorem um_words_le (u : Nat) : um_words u ≤ 100 := by
  unfold um_words
  by_cases h1 : u < 10
  · rw [if_pos h1]; omega
  · rw [if_neg h1]
    by_cases h2 : u = 18
    · rw [if_pos h2]; omega
    · rw [if_neg h2]
      by_cases h3 : u = 19
      · rw [if_pos h3]; omega
      · rw [if_neg h3]; omega
section UMD
variable {E : ur_Ev} {a : um_Ad} {S : um_S} {h : ur_M}
/-- the core's time or number of operations is written -/
theorem um_R.time (hR : um_R E a S h) {k v : Nat} (hk : k ≠ 1) {e : va_E} (he : um_core E a (um_sA S 20 k v) 0 = some e) : um_R E a (um_sA S 20 k v) (va_up h (a.1 20 0) (some e)) :=
  hR.put 20 0 (um_ct_core 0) ((um_ct_core 0).trans he) (um_ct_sC (Or.inr ⟨hk, rfl⟩)) hR.2.2.1 (fun d b h1 h2 => by
    have n : d ≠ 20 := um_d20 (by rw [h1]; decide)
    rw [um_sA_n S (fun z => n z.1)] at h2 ⊢
    exact hR.2.2.2 d b h1 h2)
/-- a number of a unit, not its count of lines -/
theorem um_R.unit (hR : um_R E a S h) {d k v : Nat} (hd : um_kind d ≠ 4) (hk : k < 6) (h2 : um_kind d = 3 → k ≠ 2) {e : va_E} (he : um_dev a (um_sA S d k v) d = e) : um_R E a (um_sA S d k v) (va_up h (a.1 d 0) (some e)) :=
  hR.put d 0 (um_ct_dev hd) ((um_ct_dev hd).trans (by rw [he])) (um_ct_sA (um_d20 hd) hk) hR.2.2.1 (fun d' b q1 q2 => by
    rw [um_sA_n S (show ¬ (d' = d ∧ 2 = k) from fun z => by have := h2 (by rw [← z.1]; exact q1); omega)] at q2
    rw [um_sA_n S (show ¬ (d' = d ∧ 6 + b = k) from fun z => by omega)]
    exact hR.2.2.2 d' b q1 q2)
/-- the memory, or what a unit brings -/
theorem um_R.arr (hR : um_R E a S h) {d j : Nat} {f : Nat → Int32} (hj : j < 3 ∨ d = 20) {e0 e : va_E} (h0 : um_ct E a S d j = some e0) (he : um_ct E a (um_sF S d j f) d j = some e) : um_R E a (um_sF S d j f) (va_up h (a.1 d j) (some e)) :=
  hR.put d j h0 he um_ct_sF (fun d' b q1 q2 => by
    rw [um_sF_n S (show ¬ (d' = d ∧ 3 + b = j) from fun z => by
      rcases hj with q | q
      · omega
      · have := um_d20 (show um_kind d' ≠ 4 by omega); exact this (z.1.trans q))]
    exact hR.2.2.1 d' b q1 q2) hR.2.2.2
theorem um_R.dlv (hR : um_R E a S h) {u : Nat} (hu : um_kind u ≠ 4) : um_R E a (um_dlv S u) (va_up (va_up h (a.1 20 2) (some (.inl (E.1 0, 4000, .inl (um_cout (S.2 20 2) (S.2 u 1) (nI (S.1 u 5)) (um_words u)))))) (a.1 u 0) (some (um_dev a (um_dlv S u) u))) := by
  refine um_R.unit (um_R.arr hR (Or.inr rfl) (um_ct_core 2) ?_) hu (by decide) (fun _ => by decide) rfl
  rw [um_ct_core]
  unfold um_core
  rw [um_sF_1]
  rfl
end UMD
