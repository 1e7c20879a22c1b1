/-! cells by a list: all are there, no address twice -/
def um_L (L : List (Nat × va_E)) (h : ur_M) : Prop := (∀ (i x : Nat) (c : va_E), L[i]? = some (x, c) → h x = some c) ∧ ∀ (i j x : Nat) (c d : va_E), L[i]? = some (x, c) → L[j]? = some (x, d) → i = j
section UML
variable {L : List (Nat × va_E)} {h : ur_M}
theorem um_L.at (hL : um_L L h) (i : Nat) {x : Nat} {c : va_E} (hi : L[i]? = some (x, c)) : h x = some c := hL.1 i x c hi
theorem um_L.put (hL : um_L L h) (i : Nat) {x : Nat} {c : va_E} (hi : L[i]? = some (x, c)) (c' : va_E) : um_L (L.set i (x, c')) (va_up h x (some c')) := by
  have hlt : i < L.length := (List.getElem?_eq_some_iff.mp hi).1
  have key : ∀ (j y : Nat) (d : va_E), (L.set i (x, c'))[j]? = some (y, d) → (j = i ∧ y = x ∧ d = c') ∨ (j ≠ i ∧ L[j]? = some (y, d)) := by
    intro j y d q
    by_cases z : j = i
    · subst z
      rw [List.getElem?_set_self hlt] at q
      cases q
      exact Or.inl ⟨rfl, rfl, rfl⟩
    · rw [List.getElem?_set_ne (Ne.symm z)] at q
      exact Or.inr ⟨z, q⟩
  refine ⟨fun j y d q => ?_, fun j k y d d' q q' => ?_⟩
  · rcases key j y d q with ⟨-, rfl, rfl⟩ | ⟨z, q⟩
    · exact va_up_self _ _ _
    · have n : y ≠ x := fun w => z (hL.2 j i y d c q (by rw [w]; exact hi))
      exact (va_up_ne _ _ n).trans (hL.1 j y d q)
  · rcases key j y d q with ⟨z1, z2, -⟩ | ⟨z, q⟩
    · rcases key k y d' q' with ⟨w1, -, -⟩ | ⟨w, q'⟩
      · exact z1.trans w1.symm
      · exact absurd (hL.2 k i y d' c q' (by rw [z2]; exact hi)) w
    · rcases key k y d' q' with ⟨w1, w2, -⟩ | ⟨w, q'⟩
      · exact absurd (hL.2 j i y d c q (by rw [w2]; exact hi)) z
      · exact hL.2 j k y d d' q q'
theorem um_L.new (hL : um_L L h) {w : Nat} (hz : h w = none) (c : va_E) : um_L (L ++ [(w, c)]) (va_up h w (some c)) := by
  have key : ∀ (j y : Nat) (d : va_E), (L ++ [(w, c)])[j]? = some (y, d) → (j = L.length ∧ y = w ∧ d = c) ∨ (L[j]? = some (y, d)) := by
    intro j y d q
    rcases Nat.lt_or_ge j L.length with z | z
    · rw [List.getElem?_append_left z] at q
      exact Or.inr q
    · rw [List.getElem?_append_right z] at q
      have : j - L.length = 0 := by
        rcases Nat.eq_zero_or_pos (j - L.length) with t | t
        · exact t
        · rw [List.getElem?_eq_none (by simp; omega)] at q
          cases q
      rw [this] at q
      cases q
      exact Or.inl ⟨by omega, rfl, rfl⟩
  have ne : ∀ (j y : Nat) (d : va_E), L[j]? = some (y, d) → y ≠ w := fun j y d q => ur_fresh (hL.1 j y d q) hz
  refine ⟨fun j y d q => ?_, fun j k y d d' q q' => ?_⟩
  · rcases key j y d q with ⟨-, rfl, rfl⟩ | q
    · exact va_up_self _ _ _
    · exact (va_up_ne _ _ (ne j y d q)).trans (hL.1 j y d q)
  · rcases key j y d q with ⟨z1, z2, -⟩ | q
    · rcases key k y d' q' with ⟨w1, -, -⟩ | q'
      · exact z1.trans w1.symm
      · exact absurd z2 (ne k y d' q')
    · rcases key k y d' q' with ⟨w1, w2, -⟩ | q'
      · exact absurd w2 (ne j y d q)
      · exact hL.2 j k y d d' q q'
/-- an object that is known gets two new arrays -/
theorem um_L.made (hL : um_L L h) {i q w w2 : Nat} {c0 : va_E} (hi : L[i]? = some (q, c0)) (z1 : h w = none) (z2 : h w2 = none) (n : w2 ≠ w) (c1 c2 o : va_E) : um_L ((L ++ [(w, c1)] ++ [(w2, c2)]).set i (q, o)) (va_up (va_up (va_up h w (some c1)) w2 (some c2)) q (some o)) := by
  refine um_L.put (c := c0) (um_L.new (um_L.new hL z1 c1) ((va_up_ne _ _ n).trans z2) c2) i ?_ o
  have hlt : i < L.length := (List.getElem?_eq_some_iff.mp hi).1
  rw [List.getElem?_append_left (by simp; omega), List.getElem?_append_left hlt]
  exact hi
theorem um_L.made1 (hL : um_L L h) {i q w : Nat} {c0 : va_E} (hi : L[i]? = some (q, c0)) (z1 : h w = none) (c1 o : va_E) : um_L ((L ++ [(w, c1)]).set i (q, o)) (va_up (va_up h w (some c1)) q (some o)) := by
  refine um_L.put (c := c0) (um_L.new hL z1 c1) i ?_ o
  have hlt : i < L.length := (List.getElem?_eq_some_iff.mp hi).1
  rw [List.getElem?_append_left hlt]
  exact hi
theorem um_L.one {x : Nat} {c : va_E} (hx : h x = some c) : um_L [(x, c)] h := by
  refine ⟨fun i y d q => ?_, fun i j y d d' q q' => ?_⟩
  · have : i < 1 := (List.getElem?_eq_some_iff.mp q).1
    rw [show i = 0 by omega] at q
    cases q
    exact hx
  · have : i < 1 := (List.getElem?_eq_some_iff.mp q).1
    have : j < 1 := (List.getElem?_eq_some_iff.mp q').1
    omega
end UML
