/-! the reference: what an operation does -/
def fo_gg (T : fo_S) (pn : Nat) : fo_S := if lg_cmp (T.2.1 pn) T.1.1 ≤ 0 then T else fo_goS (fo_po T (T.2.1 pn, T.1.2)) 10
def fo_bg (T : fo_S) (pn : Nat) (op m : Int32) : fo_S := fo_pa (fo_pa (fo_po (fo_pa (fo_pJ T (vp_updL T.2.1 pn (T.1.1 + (fo_tm (nI pn)).toInt64))) 7 (upd (T.2.2 7) pn T.1.2.1)) (T.1.1, T.1.2.1 + 1, T.1.2.2)) 5 (upd (T.2.2 5) pn (if op = 1 then 1 else 0))) 6 (upd (T.2.2 6) pn m)
/-- the cases of an operation without fault: K is what the work does -/
def fo_case (T : fo_S) (pn : Nat) (op m x : Int32) (K : fo_S → fo_S) : Prop :=
  (pn < 4 ∧ op = 0 ∧ K = fun B => fo_pa B 3 (upd (B.2.2 3) pn (fo_ps (B.2.2 3 pn) m))) ∨
  (4 ≤ pn ∧ pn < 6 ∧ op = 0 ∧ K = fun B => B) ∨
  (pn = 8 ∧ op = 0 ∧ ∃ kn, kn < 300 ∧ T.2.2 10 1 = nI kn ∧ K = fun B => fo_pa (fo_pa (fo_pa B 12 (upd (B.2.2 12) (120 * (300 + kn)) (vp_nar .byte 12))) 11 (upd (B.2.2 11) (300 + kn) 1)) 10 (upd (B.2.2 10) 1 (nI (kn + 1)))) ∨
  (pn = 8 ∧ op = 0 ∧ T.2.2 10 1 = nI 300 ∧ K = fun B => B) ∨
  (pn < 4 ∧ op = 1 ∧ ∃ sn, sn < 64 ∧ T.2.2 3 pn = nI sn ∧ K = fun B => fo_pa (fo_pa B 8 (fo_cp (B.2.2 8) (B.2.2 2) (100 * pn) (100 * (64 * pn + sn)) 100)) 3 (upd (B.2.2 3) pn (nI (sn + 1)))) ∨
  (pn < 4 ∧ op = 2 ∧ ∃ sn mn, sn < 64 ∧ T.2.2 3 pn = nI sn ∧ m = nI mn ∧ mn + 100 ≤ 4000 ∧ K = fun B => fo_pa (fo_pa B 2 (fo_cp (B.2.2 2) (B.2.2 1) (100 * (64 * pn + sn)) mn 100)) 3 (upd (B.2.2 3) pn (nI (sn + 1)))) ∨
  (4 ≤ pn ∧ pn < 6 ∧ op = 1 ∧ ∃ xn, xn < 64 ∧ x = nI xn ∧ K = fun B => fo_pa B 8 (fo_cp (B.2.2 8) (B.2.2 2) (100 * pn) (100 * (64 * pn + xn)) 100)) ∨
  (4 ≤ pn ∧ pn < 6 ∧ op = 2 ∧ ∃ xn mn, xn < 64 ∧ x = nI xn ∧ m = nI mn ∧ mn + 100 ≤ 4000 ∧ K = fun B => fo_pa B 2 (fo_cp (B.2.2 2) (B.2.2 1) (100 * (64 * pn + xn)) mn 100)) ∨
  (pn = 6 ∧ op = 1 ∧ ∃ cn, 0 < cn ∧ cn ≤ 100 ∧ T.1.2.2.1 = nI cn ∧ K = fun B => fo_pa (fo_po (fo_pa B 8 (fo_rb (B.2.2 8) (B.2.2 14) (B.2.2 9) 16)) (B.1.1, B.1.2.1, nI (cn - 1), B.1.2.2.2)) 9 (fo_sh (B.2.2 9) (80 * (cn - 1)))) ∨
  (∃ l0 kn mn, l0 < 3 ∧ pn = 7 + l0 ∧ op = 2 ∧ kn < 300 ∧ T.2.2 10 l0 = nI kn ∧ m = nI mn ∧ mn + fo_W l0 ≤ 4000 ∧ K = fun B => fo_pa (fo_pa (fo_pa B 10 (upd (B.2.2 10) l0 (nI (kn + 1)))) 12 (fo_wl (B.2.2 12) (B.2.2 14) (B.2.2 1) mn (300 * l0 + kn) (5 * fo_W l0))) 11 (upd (B.2.2 11) (300 * l0 + kn) (fo_wn (B.2.2 14) (B.2.2 1) mn (5 * fo_W l0)))) ∨
  (∃ l0 mn, l0 < 3 ∧ pn = 7 + l0 ∧ op = 2 ∧ T.2.2 10 l0 = nI 300 ∧ m = nI mn ∧ mn + fo_W l0 ≤ 4000 ∧ K = fun B => B)
theorem fo_goS_r : ∀ (n : Nat) (T : fo_S), (fo_goS T n).2.1 = T.2.1 ∧ ∀ k, k ≠ 1 → k ≠ 5 → (fo_goS T n).2.2 k = T.2.2 k := by
  intro n
  induction n with
  | zero => intro T; exact ⟨rfl, fun _ _ _ => rfl⟩
  | succ n ih =>
    intro T
    rw [fo_goS]
    by_cases c : fo_best (T.2.2 5) T.2.1 (T.2.2 7) T.1.1 10 < 0
    · rw [if_pos c]; exact ⟨rfl, fun _ _ _ => rfl⟩
    · rw [if_neg c]
      refine ⟨(ih _).1, fun k h1 h5 => ?_⟩
      rw [(ih _).2 k h1 h5, fo_pa_n _ _ h1, fo_pa_n _ _ h5]
theorem fo_gg_r (T : fo_S) (pn : Nat) : (fo_gg T pn).2.1 = T.2.1 ∧ (fo_gg T pn).1.2 = T.1.2 ∧ ∀ k, k ≠ 1 → k ≠ 5 → (fo_gg T pn).2.2 k = T.2.2 k := by
  unfold fo_gg
  by_cases c : lg_cmp (T.2.1 pn) T.1.1 ≤ 0
  · rw [if_pos c]; exact ⟨rfl, rfl, fun _ _ _ => rfl⟩
  · rw [if_neg c]
    refine ⟨(fo_goS_r 10 _).1, ?_, fun k h1 h5 => (fo_goS_r 10 _).2 k h1 h5⟩
    rw [fo_goS_1]; rfl
theorem fo_bg_r (T : fo_S) (pn : Nat) (op m : Int32) (k : Nat) (h5 : k ≠ 5) (h6 : k ≠ 6) (h7 : k ≠ 7) : (fo_bg T pn op m).2.2 k = T.2.2 k := by
  unfold fo_bg
  rw [fo_pa_n _ _ h6, fo_pa_n _ _ h5]
  show (fo_pa (fo_pJ T _) 7 _).2.2 k = _
  rw [fo_pa_n _ _ h7]
  rfl
theorem fo_bg_1 (T : fo_S) (pn : Nat) (op m : Int32) : (fo_bg T pn op m).1 = (T.1.1, T.1.2.1 + 1, T.1.2.2) := rfl
