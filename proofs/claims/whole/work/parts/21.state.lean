/-! the object's state S = (numbers, arrays), by places (d, j): d < 20 a unit, 20 the core; j = 0 the object, 1 what it brings, 2 its rows or cards, 3 + b row b.
Numbers of a unit: 0 bringing, 1 turn, 2 position or lines or first card, 3 cards left, 4 free at, 5 target, 6 + b length of line b; of the core: 0 begun, 1 bytes on the tape, 2 now.
a = (addresses of the places, which rows are there). -/
abbrev um_S : Type := (Nat → Nat → Nat) × (Nat → Nat → Nat → Int32)
abbrev um_Ad : Type := (Nat → Nat → Nat) × (Nat → Nat → Bool)
def um_kind (u : Nat) : Nat := if u < 4 then 0 else if u = 8 then 1 else if u = 9 then 1 else if u = 16 then 2 else if u = 17 then 3 else if u = 18 then 3 else if u = 19 then 3 else 4
def um_words (u : Nat) : Nat := if u < 10 then 100 else if u = 18 then 24 else if u = 19 then 14 else 16
def um_dur (u : Nat) : Nat := if u < 4 then 500 else if u < 10 then 400 else if u = 16 then 1000 else if u = 17 then 1500 else if u = 18 then 750 else 900
def um_ci (u : Nat) : Nat := if um_kind u = 0 then 3 else if um_kind u = 1 then 4 else if um_kind u = 2 then 5 else 6
theorem um_ci_D (u : Nat) : um_isD (um_ci u) := by
  unfold um_isD um_ci
  by_cases h0 : um_kind u = 0
  · rw [if_pos h0]; exact Or.inl rfl
  · rw [if_neg h0]
    by_cases h1 : um_kind u = 1
    · rw [if_pos h1]; exact Or.inr (Or.inl rfl)
    · rw [if_neg h1]
      by_cases h2 : um_kind u = 2
      · rw [if_pos h2]; exact Or.inr (Or.inr (Or.inl rfl))
      · rw [if_neg h2]; exact Or.inr (Or.inr (Or.inr rfl))
def um_rows (a : um_Ad) (d : Nat) : Nat → Option Nat := fun b => if a.2 d b = true then some (a.1 d (3 + b)) else none
def um_devs (a : um_Ad) : Nat → Option Nat := fun u => if um_kind u = 4 then none else some (a.1 u 0)
def um_tl (a : um_Ad) (S : um_S) (d : Nat) : List Value := if um_kind d = 0 then [.int (nI (S.1 d 2)), .ref (a.1 d 2)] else if um_kind d = 1 then [.ref (a.1 d 2)] else if um_kind d = 2 then [.ref (a.1 d 2), .int (nI (S.1 d 2)), .int (nI (S.1 d 3))] else [.ref (a.1 d 2), .int (if d = 18 then 1 else 0), .int (nI (S.1 d 2))]
def um_dev (a : um_Ad) (S : um_S) (d : Nat) : va_E := .inr (um_ci d, .int (nI (um_words d)) :: .ref (a.1 d 1) :: .int (nI (um_dur d)) :: .long (lN (S.1 d 4)) :: .int (nI (S.1 d 0)) :: .int (nI (S.1 d 1)) :: .int (nI (S.1 d 5)) :: um_tl a S d)
def um_two (E : ur_Ev) (a : um_Ad) (S : um_S) (d : Nat) : va_E := if um_kind d = 2 then .inl (E.1 0, 1600, .inl (S.2 d 2)) else if um_kind d = 3 then .inl (E.1 4, 300, .inr (.inr (.inr (.inr (um_rows a d))))) else .inl (E.1 3, 64, .inr (.inr (.inr (.inr (um_rows a d)))))
def um_row (E : ur_Ev) (S : um_S) (d b : Nat) : va_E := if um_kind d = 3 then .inl (E.1 1, S.1 d (6 + b), .inl (S.2 d (3 + b))) else .inl (E.1 0, 100, .inl (S.2 d (3 + b)))
def um_core (E : ur_Ev) (a : um_Ad) (S : um_S) (j : Nat) : Option va_E := match j with
  | 0 => some (.inr (0, [.ref (a.1 20 1), .ref (a.1 20 3), .ref (a.1 16 0), .ref (a.1 20 5), .long (lN (S.1 20 2)), .int (nI (S.1 20 0))]))
  | 1 => some (.inr (1, [.ref (a.1 20 2)]))
  | 2 => some (.inl (E.1 0, 4000, .inl (S.2 20 2)))
  | 3 => some (.inr (2, [.ref (a.1 20 4), .int (nI (S.1 20 1))]))
  | 4 => some (.inl (E.1 1, 400, .inl (S.2 20 4)))
  | 5 => some (.inl (E.1 2, 20, .inr (.inr (.inr (.inr (um_devs a))))))
  | _ => none
def um_ct (E : ur_Ev) (a : um_Ad) (S : um_S) (d j : Nat) : Option va_E := if d = 20 then um_core E a S j else if um_kind d = 4 then none else match j with
  | 0 => some (um_dev a S d)
  | 1 => some (.inl (E.1 0, um_words d, .inl (S.2 d 1)))
  | 2 => some (um_two E a S d)
  | b + 3 => if a.2 d b = true then some (um_row E S d b) else none
/-- the heap holds the state S at the addresses a -/
def um_R (E : ur_Ev) (a : um_Ad) (S : um_S) (h : ur_M) : Prop := (∀ d j e, um_ct E a S d j = some e → h (a.1 d j) = some e) ∧ (∀ d j d' j' e e', um_ct E a S d j = some e → um_ct E a S d' j' = some e' → a.1 d j = a.1 d' j' → d = d' ∧ j = j') ∧ (∀ d b, um_kind d ≤ 1 → a.2 d b = false → S.2 d (3 + b) = fun _ => 0) ∧ ∀ d b, um_kind d = 3 → b < S.1 d 2 → a.2 d b = true ∧ S.1 d (6 + b) ≤ 120
def um_Bd (S : um_S) : Prop := ∀ d k, S.1 d k < 2 ^ 31
theorem um_k20 : um_kind 20 = 4 := by decide
theorem um_d20 {d : Nat} (h : um_kind d ≠ 4) : d ≠ 20 := fun z => h (by rw [z]; exact um_k20)
theorem um_ct_core {E : ur_Ev} {a : um_Ad} {S : um_S} (j : Nat) : um_ct E a S 20 j = um_core E a S j := by
  unfold um_ct
  rw [if_pos rfl]
theorem um_ct_dev {E : ur_Ev} {a : um_Ad} {S : um_S} {d : Nat} (h : um_kind d ≠ 4) : um_ct E a S d 0 = some (um_dev a S d) := by
  unfold um_ct
  rw [if_neg (um_d20 h), if_neg h]
theorem um_ct_br {E : ur_Ev} {a : um_Ad} {S : um_S} {d : Nat} (h : um_kind d ≠ 4) : um_ct E a S d 1 = some (.inl (E.1 0, um_words d, .inl (S.2 d 1))) := by
  unfold um_ct
  rw [if_neg (um_d20 h), if_neg h]
theorem um_ct_two {E : ur_Ev} {a : um_Ad} {S : um_S} {d : Nat} (h : um_kind d ≠ 4) : um_ct E a S d 2 = some (um_two E a S d) := by
  unfold um_ct
  rw [if_neg (um_d20 h), if_neg h]
theorem um_ct_row {E : ur_Ev} {a : um_Ad} {S : um_S} {d b : Nat} (h : um_kind d ≠ 4) : um_ct E a S d (3 + b) = if a.2 d b = true then some (um_row E S d b) else none := by
  unfold um_ct
  rw [if_neg (um_d20 h), if_neg h, Nat.add_comm 3 b]
section UMR
variable {E : ur_Ev} {a : um_Ad} {S S' : um_S} {h : ur_M}
theorem um_R.core (hR : um_R E a S h) {j : Nat} {e : va_E} (he : um_core E a S j = some e) : h (a.1 20 j) = some e := hR.1 20 j e ((um_ct_core j).trans he)
theorem um_R.dev (hR : um_R E a S h) {d : Nat} (hk : um_kind d ≠ 4) : h (a.1 d 0) = some (um_dev a S d) := hR.1 d 0 _ (um_ct_dev hk)
theorem um_R.br (hR : um_R E a S h) {d : Nat} (hk : um_kind d ≠ 4) : h (a.1 d 1) = some (.inl (E.1 0, um_words d, .inl (S.2 d 1))) := hR.1 d 1 _ (um_ct_br hk)
theorem um_R.two (hR : um_R E a S h) {d : Nat} (hk : um_kind d ≠ 4) : h (a.1 d 2) = some (um_two E a S d) := hR.1 d 2 _ (um_ct_two hk)
theorem um_R.apart (hR : um_R E a S h) {d j d' j' : Nat} {e e' : va_E} (h1 : um_ct E a S d j = some e) (h2 : um_ct E a S d' j' = some e') (n : ¬ (d = d' ∧ j = j')) : a.1 d j ≠ a.1 d' j' := fun z => n (hR.2.1 d j d' j' e e' h1 h2 z)
/-- one place has other content -/
theorem um_R.put (hR : um_R E a S h) (d j : Nat) {e0 e : va_E} (h0 : um_ct E a S d j = some e0) (h1 : um_ct E a S' d j = some e) (h2 : ∀ d' j', ¬ (d' = d ∧ j' = j) → um_ct E a S' d' j' = um_ct E a S d' j') (h3 : ∀ d b, um_kind d ≤ 1 → a.2 d b = false → S'.2 d (3 + b) = fun _ => 0) (h4 : ∀ d b, um_kind d = 3 → b < S'.1 d 2 → a.2 d b = true ∧ S'.1 d (6 + b) ≤ 120) : um_R E a S' (va_up h (a.1 d j) (some e)) := by
  have old : ∀ d' j' e', um_ct E a S' d' j' = some e' → ∃ e2, um_ct E a S d' j' = some e2 := by
    intro d' j' e' q
    by_cases z : d' = d ∧ j' = j
    · exact ⟨e0, by rw [z.1, z.2]; exact h0⟩
    · exact ⟨e', by rw [← h2 d' j' z]; exact q⟩
  refine ⟨fun d' j' e' q => ?_, fun d1 j1 d2 j2 e1 e2 q1 q2 z => ?_, h3, h4⟩
  · by_cases z : d' = d ∧ j' = j
    · rw [z.1, z.2] at q ⊢
      rw [h1] at q
      cases q
      exact va_up_self _ _ _
    · rw [h2 d' j' z] at q
      exact (va_up_ne _ _ (hR.apart q h0 z)).trans (hR.1 d' j' e' q)
  · obtain ⟨x1, y1⟩ := old d1 j1 e1 q1
    obtain ⟨x2, y2⟩ := old d2 j2 e2 q2
    exact hR.2.1 d1 j1 d2 j2 x1 x2 y1 y2 z
end UMR
def um_sA (S : um_S) (d k v : Nat) : um_S := (fun x y => if x = d ∧ y = k then v else S.1 x y, S.2)
def um_sF (S : um_S) (d j : Nat) (f : Nat → Int32) : um_S := (S.1, fun x y => if x = d ∧ y = j then f else S.2 x y)
theorem um_sA_1 (S : um_S) (d k v : Nat) : (um_sA S d k v).1 d k = v := if_pos ⟨rfl, rfl⟩
theorem um_sA_n (S : um_S) {d k v x y : Nat} (h : ¬ (x = d ∧ y = k)) : (um_sA S d k v).1 x y = S.1 x y := if_neg h
theorem um_sF_1 (S : um_S) (d j : Nat) (f : Nat → Int32) : (um_sF S d j f).2 d j = f := if_pos ⟨rfl, rfl⟩
theorem um_sF_n (S : um_S) {d j x y : Nat} {f : Nat → Int32} (h : ¬ (x = d ∧ y = j)) : (um_sF S d j f).2 x y = S.2 x y := if_neg h
/-- a number of a unit changes its object alone -/
theorem um_ct_sA {E : ur_Ev} {a : um_Ad} {S : um_S} {d k v : Nat} (hd : d ≠ 20) (hk : k < 6) (d' j' : Nat) (hn : ¬ (d' = d ∧ j' = 0)) : um_ct E a (um_sA S d k v) d' j' = um_ct E a S d' j' := by
  unfold um_ct
  by_cases h20 : d' = 20
  · rw [if_pos h20, if_pos h20]
    unfold um_core
    have e : ∀ y, (um_sA S d k v).1 20 y = S.1 20 y := fun y => um_sA_n S (fun z => hd z.1.symm)
    simp only [e]
    rfl
  · rw [if_neg h20, if_neg h20]
    by_cases h4 : um_kind d' = 4
    · rw [if_pos h4, if_pos h4]
    · rw [if_neg h4, if_neg h4]
      match j', hn with
      | 0, hn =>
        have e : ∀ y, (um_sA S d k v).1 d' y = S.1 d' y := fun y => um_sA_n S (fun z => hn ⟨z.1, rfl⟩)
        show some (um_dev a (um_sA S d k v) d') = some (um_dev a S d')
        unfold um_dev um_tl
        simp only [e]
      | 1, _ => rfl
      | 2, _ => rfl
      | b + 3, _ =>
        show (if a.2 d' b = true then some (um_row E (um_sA S d k v) d' b) else none) = _
        unfold um_row
        rw [um_sA_n S (show ¬ (d' = d ∧ 6 + b = k) from fun z => by omega)]
        rfl
/-- a number of the core changes its objects alone -/
theorem um_ct_sC {E : ur_Ev} {a : um_Ad} {S : um_S} {k v j : Nat} (hk : (k = 1 ∧ j = 3) ∨ (k ≠ 1 ∧ j = 0)) (d' j' : Nat) (hn : ¬ (d' = 20 ∧ j' = j)) : um_ct E a (um_sA S 20 k v) d' j' = um_ct E a S d' j' := by
  unfold um_ct
  by_cases h20 : d' = 20
  · rw [if_pos h20, if_pos h20]
    have hj : j' ≠ j := fun z => hn ⟨h20, z⟩
    match j', hj with
    | 0, hj =>
      have hk1 : k = 1 := by
        rcases hk with q | q
        · exact q.1
        · exact absurd q.2.symm hj
      unfold um_core
      rw [um_sA_n S (show ¬ (20 = 20 ∧ 2 = k) by omega), um_sA_n S (show ¬ (20 = 20 ∧ 0 = k) by omega)]
      rfl
    | 1, _ => rfl
    | 2, _ => rfl
    | 3, hj =>
      have hk1 : k ≠ 1 := by
        rcases hk with q | q
        · exact absurd q.2.symm hj
        · exact q.1
      unfold um_core
      rw [um_sA_n S (show ¬ (20 = 20 ∧ 1 = k) by omega)]
      rfl
    | 4, _ => rfl
    | 5, _ => rfl
    | n + 6, _ => rfl
  · rw [if_neg h20, if_neg h20]
    by_cases h4 : um_kind d' = 4
    · rw [if_pos h4, if_pos h4]
    · rw [if_neg h4, if_neg h4]
      have e : ∀ y, (um_sA S 20 k v).1 d' y = S.1 d' y := fun y => um_sA_n S (fun z => h20 z.1)
      match j' with
      | 0 =>
        show some (um_dev a (um_sA S 20 k v) d') = some (um_dev a S d')
        unfold um_dev um_tl
        simp only [e]
      | 1 => rfl
      | 2 => rfl
      | b + 3 =>
        show (if a.2 d' b = true then some (um_row E (um_sA S 20 k v) d' b) else none) = _
        unfold um_row
        rw [e]
        rfl
/-- an array changes its place alone -/
theorem um_ct_sF {E : ur_Ev} {a : um_Ad} {S : um_S} {d j : Nat} {f : Nat → Int32} (d' j' : Nat) (hn : ¬ (d' = d ∧ j' = j)) : um_ct E a (um_sF S d j f) d' j' = um_ct E a S d' j' := by
  unfold um_ct
  by_cases h20 : d' = 20
  · rw [if_pos h20, if_pos h20]
    subst h20
    match j', hn with
    | 0, _ => rfl
    | 1, _ => rfl
    | 2, hn => unfold um_core; rw [um_sF_n S hn]; rfl
    | 3, _ => rfl
    | 4, hn => unfold um_core; rw [um_sF_n S hn]; rfl
    | 5, _ => rfl
    | n + 6, _ => rfl
  · rw [if_neg h20, if_neg h20]
    by_cases h4 : um_kind d' = 4
    · rw [if_pos h4, if_pos h4]
    · rw [if_neg h4, if_neg h4]
      match j', hn with
      | 0, _ => rfl
      | 1, hn => show some _ = some _; rw [um_sF_n S hn]
      | 2, hn =>
        show some (um_two E a (um_sF S d j f) d') = some (um_two E a S d')
        unfold um_two
        rw [um_sF_n S hn]
      | b + 3, hn =>
        show (if a.2 d' b = true then some (um_row E (um_sF S d j f) d' b) else none) = _
        unfold um_row
        rw [um_sF_n S (show ¬ (d' = d ∧ 3 + b = j) from fun z => hn ⟨z.1, by omega⟩)]
        rfl
