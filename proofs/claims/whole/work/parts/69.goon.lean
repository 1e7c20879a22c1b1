/-! the time goes on: both deliver the same -/
def RLg (S : um_S) (T : fo_S) : Prop := (um_Bd S ∧ um_Ok S) ∧ rl_num S T ∧ rl_mem (S.2 20 2) (T.2.2 1) ∧ rl_blk S (T.2.2 2) ∧ rl_std S (T.2.2 3) ∧ rl_fre S T.2.1 ∧ rl_com S (T.2.2 5) ∧ rl_pnd S T ∧ rl_crd S T ∧ rl_lin S T ∧ rl_let S T ∧ rl_tap S T ∧ T.2.2 14 = fo_alp 56
section RLG
variable {n : Nat} {S S' : um_S} {T T' : fo_S}
theorem RL.g (h : RL n S T) : RLg S T := ⟨⟨h.1.1, h.1.2.1⟩, h.2⟩
theorem RLg.rl (h : RLg S T) (h1 : ∀ u, um_due S u = false) (h2 : S.1 20 2 ≤ 10000 * n) (h3 : ∀ d, S.1 d 4 ≤ 10000 * n) (h4 : S.1 20 0 ≤ n) : RL n S T := ⟨⟨h.1.1, h.1.2, h1, h2, h3, h4⟩, h.2⟩
def rl_o (S : um_S) (o : Option Nat) (x : Int32) : Prop := (o = none ∧ x = -1) ∨ ∃ p, p < 10 ∧ o = some (rl_u p) ∧ x = nI p ∧ S.1 (rl_u p) 0 ≠ 0
theorem rl_ah (h : RLg S T) {p q : Nat} (hp : p < 10) (hq : q < 10) (cp : S.1 (rl_u p) 0 ≠ 0) (cq : S.1 (rl_u q) 0 ≠ 0) : fo_ah T.2.1 (T.2.2 7) (nI p) (nI q) = um_bef S (rl_u p) (rl_u q) := by
  obtain ⟨⟨hB, hO⟩, h2, h3, h4, h5, h6, h7, h8, h9, h10, h11, h12, h13⟩ := h
  rw [← um_ahead_bef hB]
  obtain ⟨-, -, ⟨kp, e1, e2⟩, -⟩ := h8 p hp cp
  obtain ⟨-, -, ⟨kq, e3, e4⟩, -⟩ := h8 q hq cq
  unfold fo_ah um_ahead
  rw [if_neg (nI_pos (show q < 2 ^ 31 by omega)), nI_clamp (show p < 2 ^ 31 by omega), nI_clamp (show q < 2 ^ 31 by omega), h6 p hp, h6 q hq, e1, e3, e2, e4]
  have b1 := hB (rl_u p) 1
  have b2 := hB (rl_u q) 1
  have e : (nI kq ≤ nI kp) ↔ (nI (kq + 1) ≤ nI (kp + 1)) := by
    rw [nI_leI (by omega) (by omega), nI_leI (by omega) (by omega)]
    omega
  by_cases c : nI kq ≤ nI kp
  · rw [if_pos c, if_pos (e.mp c)]
  · rw [if_neg c, if_neg (fun z => c (e.mpr z))]
theorem rl_nd_step (h : RLg S T) {p : Nat} (hp : p < 10) (ho : rl_o S (um_nd S (rl_u p)) (fo_best (T.2.2 5) T.2.1 (T.2.2 7) T.1.1 p)) : rl_o S (um_nd S (rl_u p + 1)) (fo_best (T.2.2 5) T.2.1 (T.2.2 7) T.1.1 (p + 1)) := by
  have hB := h.1.1
  have eC := h.2.2.2.2.2.2.1 p hp
  have eJ := h.2.2.2.2.2.1 p hp
  have eT : T.1.1 = lN (S.1 20 2) := by rw [show T.1 = _ from h.2.1]
  rw [fo_best, eC, eJ]
  by_cases c0 : S.1 (rl_u p) 0 = 0
  · have z : nI (S.1 (rl_u p) 0) = 0 := by rw [c0]; rfl
    rw [if_pos z, um_nd_f (um_due_0 hB z)]
    exact ho
  · have z : ¬ nI (S.1 (rl_u p) 0) = 0 := fun w => c0 ((nI_eq (hB _ _) (by decide)).mp w)
    rw [if_neg z]
    by_cases c1 : 0 < lg_cmp (lN (S.1 (rl_u p) 4)) T.1.1
    · rw [if_pos c1]
      rw [eT] at c1
      rw [um_nd_f (um_due_c hB c1)]
      exact ho
    · rw [if_neg c1]
      rw [eT] at c1
      have hd := um_due_t hB (rl_ut p hp).1 z c1
      rcases ho with ⟨o1, o2⟩ | ⟨q, hq, o1, o2, o3⟩
      · rw [o2, if_pos (show fo_ah T.2.1 (T.2.2 7) (nI p) (-1) = true from if_pos (by decide)), um_nd_t hd (by rw [o1]; rfl)]
        exact Or.inr ⟨p, hp, rfl, rfl, c0⟩
      · rw [o2, rl_ah h hp hq c0 o3]
        by_cases c2 : um_bef S (rl_u p) (rl_u q) = true
        · rw [if_pos c2, um_nd_t hd (by rw [o1]; exact c2)]
          exact Or.inr ⟨p, hp, rfl, rfl, c0⟩
        · rw [if_neg c2, um_nd_n (by rw [o1]; exact Bool.eq_false_iff.mpr c2)]
          exact Or.inr ⟨q, hq, o1, rfl, o3⟩
theorem rl_gap {u : Nat} (hk : um_kind u = 4) : um_nd S (u + 1) = um_nd S u := um_nd_f (um_due_4 hk)
theorem rl_nd (h : RLg S T) : rl_o S (um_nd S 20) (fo_best (T.2.2 5) T.2.1 (T.2.2 7) T.1.1 10) := by
  have s0 : rl_o S (um_nd S 0) (fo_best (T.2.2 5) T.2.1 (T.2.2 7) T.1.1 0) := Or.inl ⟨rfl, rfl⟩
  have s4 : rl_o S (um_nd S 4) (fo_best (T.2.2 5) T.2.1 (T.2.2 7) T.1.1 4) := rl_nd_step h (p := 3) (by decide) (rl_nd_step h (p := 2) (by decide) (rl_nd_step h (p := 1) (by decide) (rl_nd_step h (p := 0) (by decide) s0)))
  have g8 : um_nd S 8 = um_nd S 4 := (rl_gap (u := 7) (by decide)).trans ((rl_gap (u := 6) (by decide)).trans ((rl_gap (u := 5) (by decide)).trans (rl_gap (u := 4) (by decide))))
  rw [← g8] at s4
  have s6 : rl_o S (um_nd S 10) (fo_best (T.2.2 5) T.2.1 (T.2.2 7) T.1.1 6) := rl_nd_step h (p := 5) (by decide) (rl_nd_step h (p := 4) (by decide) s4)
  have g16 : um_nd S 16 = um_nd S 10 := (rl_gap (u := 15) (by decide)).trans ((rl_gap (u := 14) (by decide)).trans ((rl_gap (u := 13) (by decide)).trans ((rl_gap (u := 12) (by decide)).trans ((rl_gap (u := 11) (by decide)).trans (rl_gap (u := 10) (by decide))))))
  rw [← g16] at s6
  exact rl_nd_step h (p := 9) (by decide) (rl_nd_step h (p := 8) (by decide) (rl_nd_step h (p := 7) (by decide) (rl_nd_step h (p := 6) (by decide) s6)))
theorem RLg.dlv (h : RLg S T) {p : Nat} (hp : p < 10) (c0 : S.1 (rl_u p) 0 ≠ 0) : RLg (um_dlv S (rl_u p)) (fo_pa (fo_pa T 5 (upd (T.2.2 5) p 0)) 1 (fo_cp (T.2.2 1) (T.2.2 8) (S.1 (rl_u p) 5) (100 * p) (um_words (rl_u p)))) := by
  obtain ⟨⟨hB, hO⟩, h2, h3, h4, h5, h6, h7, h8, h9, h10, h11, h12, h13⟩ := h
  have hn := rl_n20 p hp
  obtain ⟨g1, g2, g3, g4⟩ := h8 p hp c0
  have hw := um_words_le (rl_u p)
  have A : ∀ d k, ¬ (d = rl_u p ∧ k = 0) → (um_dlv S (rl_u p)).1 d k = S.1 d k := fun d k z => um_sA_n _ z
  have A0 : (um_dlv S (rl_u p)).1 (rl_u p) 0 = 0 := um_sA_1 _ _ _ _
  have F : ∀ d k, ¬ (d = 20 ∧ k = 2) → (um_dlv S (rl_u p)).2 d k = S.2 d k := fun d k z => um_sF_n S z
  have F2 : (um_dlv S (rl_u p)).2 20 2 = um_cout (S.2 20 2) (S.2 (rl_u p) 1) (nI (S.1 (rl_u p) 5)) (um_words (rl_u p)) := um_sF_1 S 20 2 _
  generalize um_dlv S (rl_u p) = S' at *
  have T1 : ∀ k, k ≠ 1 → k ≠ 5 → (fo_pa (fo_pa T 5 (upd (T.2.2 5) p 0)) 1 (fo_cp (T.2.2 1) (T.2.2 8) (S.1 (rl_u p) 5) (100 * p) (um_words (rl_u p)))).2.2 k = T.2.2 k := fun k z1 z5 => by rw [fo_pa_n _ _ z1, fo_pa_n _ _ z5]
  refine ⟨⟨fun d k => ?_, ?_⟩, ?_, ?_, ?_, ?_, ?_, ?_, ?_, ?_, ?_, ?_, ?_, ?_⟩
  · by_cases z : d = rl_u p ∧ k = 0
    · rw [z.1, z.2, A0]; decide
    · rw [A d k z]; exact hB d k
  · obtain ⟨o1, o2, o3, o4, o5, o6⟩ := hO
    exact ⟨fun d hd => by rw [A d 2 (by omega)]; exact o1 d hd, fun d hd => by rw [A d 2 (by omega)]; exact o2 d hd, by rw [A 16 2 (by omega)]; exact o3, by rw [A 16 3 (by omega)]; exact o4, by rw [A 20 1 (by omega)]; exact o5, trivial⟩
  · unfold rl_num
    rw [A 20 2 (by omega), A 20 0 (by omega), A 16 3 (by omega), A 20 1 (by omega)]
    exact h2
  · rw [F2, fo_pa_s]
    intro j hj
    rw [um_cout_t (by rw [um_holds_iff (by omega) (by omega)]; exact decide_eq_true g2), nI_clamp (by omega)]
    unfold fo_cp
    by_cases z : S.1 (rl_u p) 5 ≤ j ∧ j < S.1 (rl_u p) 5 + um_words (rl_u p)
    · rw [if_pos z, pk_cpy_in z.1 z.2, Nat.zero_add]
      exact g4 _ (by omega)
    · rw [if_neg z, pk_cpy_out (by omega)]
      exact h3 j hj
  · rw [T1 2 (by decide) (by decide)]; exact h4.c (fun q b hq _ => F _ _ (fun z => rl_n20 q (by omega) z.1))
  · rw [T1 3 (by decide) (by decide)]; exact h5.c (fun q hq => A _ _ (by omega))
  · exact h6.c (fun q hq => A _ _ (by omega))
  · intro q hq
    rw [fo_pa_n _ _ (by decide), fo_pa_s]
    by_cases e : q = p
    · subst e; rw [pk_us, A0]; rfl
    · rw [pk_un e, A _ 0 (fun z => e (rl_inj q hq p hp z.1))]; exact h7 q hq
  · intro q hq c
    by_cases e : q = p
    · subst e; rw [A0] at c; exact absurd rfl c
    · have ne : rl_u q ≠ rl_u p := fun z => e (rl_inj q hq p hp z)
      rw [A _ 0 (fun z => ne z.1)] at c
      rw [A _ 5 (fun z => ne z.1), A _ 1 (fun z => ne z.1), F _ 1 (by omega), T1 6 (by decide) (by decide), T1 7 (by decide) (by decide), T1 8 (by decide) (by decide)]
      exact h8 q hq c
  · exact h9.c (A _ _ (by omega)) (A _ _ (by omega)) (F _ _ (by omega)) (T1 14 (by decide) (by decide)) (T1 9 (by decide) (by decide))
  · exact h10.c (fun l hl => A _ _ (by omega)) (T1 10 (by decide) (by decide))
  · exact h11.c (fun l k hl hk => A _ _ (by omega)) (fun l k hl => F _ _ (by omega)) (T1 11 (by decide) (by decide)) (T1 12 (by decide) (by decide))
  · exact h12.c (A _ _ (by omega)) (F _ _ (by omega)) (T1 13 (by decide) (by decide))
  · rw [T1 14 (by decide) (by decide)]; exact h13
theorem RLg.go : ∀ (k : Nat) (m : Nat) (S : um_S) (T : fo_S), fo_cnt (T.2.2 5) 10 ≤ k → fo_cnt (T.2.2 5) 10 ≤ m → RLg S T → RLg (um_go k S) (fo_goS T m) ∧ um_nd (um_go k S) 20 = none := by
  intro k
  induction k with
  | zero =>
    intro m S T hk hm h
    rcases rl_nd h with ⟨o1, o2⟩ | ⟨p, hp, o1, o2, o3⟩
    · rw [fo_goS_end (fo_neg1 o2)]; exact ⟨h, o1⟩
    · have : ¬ T.2.2 5 p = 0 := by rw [h.2.2.2.2.2.2.1 p hp]; exact fun z => o3 ((nI_eq (h.1.1 _ _) (by decide)).mp z)
      have := fo_cnt_0 hp this
      omega
  | succ k ih =>
    intro m S T hk hm h
    rcases rl_nd h with ⟨o1, o2⟩ | ⟨p, hp, o1, o2, o3⟩
    · rw [fo_goS_end (fo_neg1 o2), um_go_none o1]; exact ⟨h, o1⟩
    · have hc : ¬ T.2.2 5 p = 0 := by rw [h.2.2.2.2.2.2.1 p hp]; exact fun z => o3 ((nI_eq (h.1.1 _ _) (by decide)).mp z)
      have hcnt := fo_cnt_0 hp hc
      obtain ⟨m', rfl⟩ : ∃ z, m = z + 1 := ⟨m - 1, by omega⟩
      obtain ⟨g1, g2, g3, g4⟩ := h.2.2.2.2.2.2.2.1 p hp o3
      have hw := um_words_le (rl_u p)
      rw [um_go_some o1, fo_goS_s o2 hp g1 (h.1.1 _ _) (rl_ut p hp).2.2.1 (by omega)]
      refine ih m' _ _ ?_ ?_ (h.dlv hp o3)
      · rw [fo_pa_n _ _ (by decide), fo_pa_s]; omega
      · rw [fo_pa_n _ _ (by decide), fo_pa_s]; omega
theorem rl_none : ∀ (k : Nat), um_nd S k = none → ∀ u, u < k → um_due S u = false := by
  intro k
  induction k with
  | zero => intro _ u hu; exact absurd hu (Nat.not_lt_zero _)
  | succ k ih =>
    intro h u hu
    by_cases hd : um_due S k = true
    · by_cases ht : um_take S k (um_nd S k) = true
      · rw [um_nd_t hd ht] at h; cases h
      · have e := um_nd_n (Bool.eq_false_iff.mpr ht)
        rw [e] at h
        rw [h] at ht
        exact absurd rfl ht
    · have e := um_nd_f (Bool.eq_false_iff.mpr hd)
      rw [e] at h
      by_cases z : u = k
      · rw [z]; exact Bool.eq_false_iff.mpr hd
      · exact ih h u (by omega)
theorem rl_none20 (h : um_nd S 20 = none) (u : Nat) : um_due S u = false := by
  by_cases hk : um_kind u = 4
  · exact um_due_4 hk
  · exact rl_none 20 h u (um_k20' hk)
/-- another time -/
theorem RLg.time (h : RLg S T) {t : Nat} (ht : t < 2 ^ 31) : RLg (um_sA S 20 2 t) (fo_po T (lN t, T.1.2)) := by
  obtain ⟨⟨hB, hO⟩, h2, h3, h4, h5, h6, h7, h8, h9, h10, h11, h12, h13⟩ := h
  have A : ∀ d k, ¬ (d = 20 ∧ k = 2) → (um_sA S 20 2 t).1 d k = S.1 d k := fun d k z => um_sA_n _ z
  refine ⟨⟨um_Bd_sA hB ht, ?_⟩, ?_, h3, h4, ?_, ?_, ?_, ?_, ?_, ?_, ?_, ?_, h13⟩
  · obtain ⟨o1, o2, o3, o4, o5, o6⟩ := hO
    exact ⟨fun d hd => by rw [A d 2 (fun z => um_d20 (by omega) z.1)]; exact o1 d hd, fun d hd => by rw [A d 2 (fun z => um_d20 (by omega) z.1)]; exact o2 d hd, by rw [A 16 2 (by omega)]; exact o3, by rw [A 16 3 (by omega)]; exact o4, by rw [A 20 1 (by omega)]; exact o5, trivial⟩
  · unfold rl_num
    rw [A 20 0 (by omega), A 16 3 (by omega), A 20 1 (by omega), um_sA_1]
    show (lN t, T.1.2) = _
    rw [show T.1 = _ from h2]
  · exact h5.c (fun q hq => A _ _ (by omega))
  · exact h6.c (fun q hq => A _ _ (by omega))
  · exact h7.c (fun q hq => A _ _ (by omega))
  · exact h8.c (fun p k hp hk => A _ _ (by omega)) (fun _ _ => rfl) rfl rfl rfl
  · exact h9.c (A _ _ (by omega)) (A _ _ (by omega)) rfl rfl rfl
  · exact h10.c (fun l hl => A _ _ (by omega)) rfl
  · exact h11.c (fun l k hl hk => A _ _ (by omega)) (fun _ _ _ => rfl) rfl rfl
  · exact h12.c (A _ _ (by omega)) rfl rfl
theorem RLg.goTo (h : RLg S T) {t : Nat} (ht : t < 2 ^ 31) : RLg (um_goTo S t) (fo_goS (fo_po T (lN t, T.1.2)) 10) ∧ ∀ u, um_due (um_goTo S t) u = false := by
  have hc := fo_cnt_le (T.2.2 5) 10
  have q := RLg.go 20 10 (um_sA S 20 2 t) (fo_po T (lN t, T.1.2)) (by show fo_cnt (T.2.2 5) 10 ≤ 20; omega) hc (h.time ht)
  exact ⟨q.1, rl_none20 q.2⟩
theorem rl_goTo_4 (t d : Nat) : (um_goTo S t).1 d 4 = S.1 d 4 := by
  unfold um_goTo
  rw [um_go_A _ _ _ _ (by decide)]
  exact um_sA_n S (by omega)
theorem rl_goTo_0 (t : Nat) : (um_goTo S t).1 20 0 = S.1 20 0 := by
  unfold um_goTo
  rw [um_go_core]
  exact um_sA_n S (by omega)
theorem RL.gl (h : RL n S T) : fo_Gl T := by
  intro j hj hc
  have c0 : S.1 (rl_u j) 0 ≠ 0 := fun z => hc (by rw [h.2.2.2.2.2.2.1 j hj, z]; rfl)
  obtain ⟨g1, g2, -, -⟩ := h.2.2.2.2.2.2.2.1 j hj c0
  have hw := um_words_le (rl_u j)
  exact ⟨_, g1, by rw [(rl_ut j hj).2.2.1, nI_clamp (by omega)]; exact g2⟩
theorem RL.pass (h : RL n S T) (hn : n ≤ 600) (k : Int32) : RL (n + 1) (um_goTo S (S.1 20 2 + um_dt k)) (fo_goS (fo_po T (T.1.1 + fo_add k, T.1.2)) 10) ∧ T.1.1 + fo_add k = lN (S.1 20 2 + um_dt k) := by
  obtain ⟨e, hle⟩ := rl_add k
  have hb := h.1.2.2.2.1
  have e2 : T.1.1 + fo_add k = lN (S.1 20 2 + um_dt k) := by rw [e, show T.1.1 = lN (S.1 20 2) by rw [h.num], lN_add]
  rw [e2]
  obtain ⟨q1, q2⟩ := h.g.goTo (t := S.1 20 2 + um_dt k) (by omega)
  refine ⟨q1.rl q2 ?_ (fun d => ?_) ?_, rfl⟩
  · rw [um_goTo_now]; omega
  · rw [rl_goTo_4]; have := h.1.2.2.2.2.1 d; omega
  · rw [rl_goTo_0]; have := h.1.2.2.2.2.2; omega
end RLG
