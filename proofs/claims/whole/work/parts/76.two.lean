/-! two heaps side by side: the class's and the reference's -/
def lw_un (hC hF : ur_M) : ur_M := fun x => match hC x with
  | some e => some e
  | none => hF x
section LWU
variable {hC hF h2 : ur_M} {x : Nat} {e : va_E}
theorem lw_unL (h : hC x = some e) : lw_un hC hF x = some e := by
  unfold lw_un
  rw [h]
theorem lw_un0 (h : hC x = none) : lw_un hC hF x = hF x := by
  unfold lw_un
  rw [h]
theorem lw_unR (hd : ∀ x, hC x = none ∨ hF x = none) (h : hF x = some e) : lw_un hC hF x = some e := by
  rcases hd x with q | q
  · rw [lw_un0 q]; exact h
  · rw [h] at q; cases q
theorem lw_no (h : lw_un hC hF x = none) : hC x = none ∧ hF x = none := by
  unfold lw_un at h
  cases q : hC x with
  | some e => rw [q] at h; cases h
  | none => rw [q] at h; exact ⟨rfl, h⟩
theorem lw_upC (hd : ∀ x, hC x = none ∨ hF x = none) (ap : ∀ (a : Nat) (e : va_E), h2 a = some e → (∃ e0, hC a = some e0) ∨ lw_un hC hF a = none) : (∀ x, h2 x = none ∨ hF x = none) ∧ ur_mix (lw_un hC hF) hC h2 = lw_un h2 hF := by
  have key : ∀ x e, h2 x = some e → hF x = none := fun x e q => by
    rcases ap x e q with ⟨e0, z⟩ | z
    · rcases hd x with w | w
      · rw [z] at w; cases w
      · exact w
    · exact (lw_no z).2
  refine ⟨fun x => ?_, ?_⟩
  · cases q : h2 x with
    | none => exact Or.inl rfl
    | some e => exact Or.inr (key x e q)
  · funext x
    unfold ur_mix
    cases q : h2 x with
    | some e => exact (lw_unL q).symm
    | none =>
      rw [lw_un0 q]
      cases z : hC x with
      | some e =>
        rcases hd x with w | w
        · rw [z] at w; cases w
        · exact w.symm
      | none => exact lw_un0 z
theorem lw_upF (hd : ∀ x, hC x = none ∨ hF x = none) (ap : ∀ (a : Nat) (e : va_E), h2 a = some e → (∃ e0, hF a = some e0) ∨ lw_un hC hF a = none) : (∀ x, hC x = none ∨ h2 x = none) ∧ ur_mix (lw_un hC hF) hF h2 = lw_un hC h2 := by
  have key : ∀ x e, h2 x = some e → hC x = none := fun x e q => by
    rcases ap x e q with ⟨e0, z⟩ | z
    · rcases hd x with w | w
      · exact w
      · rw [z] at w; cases w
    · exact (lw_no z).1
  refine ⟨fun x => ?_, ?_⟩
  · cases q : h2 x with
    | none => exact Or.inr rfl
    | some e => exact Or.inl (key x e q)
  · funext x
    unfold ur_mix
    cases q : h2 x with
    | some e => exact ((lw_un0 (key x e q)).trans q).symm
    | none =>
      cases z : hC x with
      | some e =>
        rw [lw_unL z]
        rcases hd x with w | w
        · rw [z] at w; cases w
        · rw [w, lw_unL z]
      | none =>
        rw [lw_un0 z, lw_un0 z, q]
        cases w : hF x with
        | some e => rfl
        | none => rfl
end LWU
theorem lw_cmp (x : Int64) : lg_cmp x x = 0 := by
  unfold lg_cmp
  rw [if_neg (show ¬ x > x from fun z => by have := Int64.lt_iff_toInt_lt.mp z; omega), if_pos rfl]
/-- the world at the law's loop, behind n calls -/
def lw_W (D : va_G) (E : ur_Ev) (s : State) (q : Nat) (b : Nat → Nat) (n : Nat) (H : Heap) (locs : List Loc) : Prop := ∃ (hC hF : ur_M) (S : um_S) (T : fo_S), lw_C E q S hC ∧ fo_R E b T hF ∧ RL n S T ∧ (∀ x, hC x = none ∨ hF x = none) ∧ ur_I D vwCl (ur_A (fun _ => none) s.heap.size) s.heap (lw_un hC hF) H locs
