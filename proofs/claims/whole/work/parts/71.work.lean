/-! an operation's work: both states go on alike -/
section RLW
variable {n : Nat} {S S' : um_S} {T T' : fo_S}
/-- the operation begins: the unit has nothing to bring -/
theorem RLg.begin (h : RLg S T) {p : Nat} (hp : p < 10) (c0 : S.1 (rl_u p) 0 = 0) (m : Int32) {op : Int32} (ho : ¬ op = 1) (hb : S.1 20 0 < 2 ^ 30) (ht : S.1 20 2 < 2 ^ 30) : RLg (um_sA (um_sA (um_sA S 20 0 (S.1 20 0 + 1)) (rl_u p) 4 (S.1 20 2 + um_dur (rl_u p))) (rl_u p) 1 (S.1 20 0 + 1)) (fo_bg T p op m) := by
  obtain ⟨⟨hB, hO⟩, h2, h3, h4, h5, h6, h7, h8, h9, h10, h11, h12, h13⟩ := h
  have hn := rl_n20 p hp
  obtain ⟨-, -, -, td, td2, -, -, -, -, -⟩ := rl_ut p hp
  have A : ∀ d k, ¬ (d = 20 ∧ k = 0) → ¬ (d = rl_u p ∧ (k = 1 ∨ k = 4)) → (um_sA (um_sA (um_sA S 20 0 (S.1 20 0 + 1)) (rl_u p) 4 (S.1 20 2 + um_dur (rl_u p))) (rl_u p) 1 (S.1 20 0 + 1)).1 d k = S.1 d k := fun d k z1 z2 => by
    rw [um_sA_n _ (fun y => z2 ⟨y.1, Or.inl y.2⟩), um_sA_n _ (fun y => z2 ⟨y.1, Or.inr y.2⟩), um_sA_n _ z1]
  have A1 : (um_sA (um_sA (um_sA S 20 0 (S.1 20 0 + 1)) (rl_u p) 4 (S.1 20 2 + um_dur (rl_u p))) (rl_u p) 1 (S.1 20 0 + 1)).1 (rl_u p) 1 = S.1 20 0 + 1 := um_sA_1 _ _ _ _
  have A4 : (um_sA (um_sA (um_sA S 20 0 (S.1 20 0 + 1)) (rl_u p) 4 (S.1 20 2 + um_dur (rl_u p))) (rl_u p) 1 (S.1 20 0 + 1)).1 (rl_u p) 4 = S.1 20 2 + um_dur (rl_u p) := by rw [um_sA_n _ (by omega), um_sA_1]
  have A20 : (um_sA (um_sA (um_sA S 20 0 (S.1 20 0 + 1)) (rl_u p) 4 (S.1 20 2 + um_dur (rl_u p))) (rl_u p) 1 (S.1 20 0 + 1)).1 20 0 = S.1 20 0 + 1 := by rw [um_sA_n _ (fun y => hn y.1.symm), um_sA_n _ (fun y => hn y.1.symm), um_sA_1]
  have F : (um_sA (um_sA (um_sA S 20 0 (S.1 20 0 + 1)) (rl_u p) 4 (S.1 20 2 + um_dur (rl_u p))) (rl_u p) 1 (S.1 20 0 + 1)).2 = S.2 := rfl
  generalize um_sA (um_sA (um_sA S 20 0 (S.1 20 0 + 1)) (rl_u p) 4 (S.1 20 2 + um_dur (rl_u p))) (rl_u p) 1 (S.1 20 0 + 1) = S' at *
  have Tk := fo_bg_r T p op m
  have T5 : (fo_bg T p op m).2.2 5 = upd (T.2.2 5) p 0 := by
    unfold fo_bg
    rw [fo_pa_n _ _ (by decide), fo_pa_s, if_neg ho]
  have T6 : (fo_bg T p op m).2.2 6 = upd (T.2.2 6) p m := fo_pa_s _ _ _
  have T7 : (fo_bg T p op m).2.2 7 = upd (T.2.2 7) p T.1.2.1 := by
    unfold fo_bg
    rw [fo_pa_n _ _ (by decide), fo_pa_n _ _ (by decide)]
    exact fo_pa_s _ _ _
  have TJ : (fo_bg T p op m).2.1 = vp_updL T.2.1 p (T.1.1 + (fo_tm (nI p)).toInt64) := rfl
  have T1 : (fo_bg T p op m).1 = (T.1.1, T.1.2.1 + 1, T.1.2.2) := rfl
  generalize fo_bg T p op m = T' at *
  have hT1 : T.1 = (lN (S.1 20 2), nI (S.1 20 0), nI (S.1 16 3), nI (S.1 20 1)) := h2
  refine ⟨⟨fun d k => ?_, ?_⟩, ?_, ?_, ?_, ?_, ?_, ?_, ?_, ?_, ?_, ?_, ?_, ?_⟩
  · by_cases z1 : d = 20 ∧ k = 0
    · rw [z1.1, z1.2, A20]; omega
    · by_cases z2 : d = rl_u p ∧ (k = 1 ∨ k = 4)
      · rw [z2.1]
        rcases z2.2 with rfl | rfl
        · rw [A1]; omega
        · rw [A4]; omega
      · rw [A d k z1 z2]; exact hB d k
  · obtain ⟨o1, o2, o3, o4, o5, o6⟩ := hO
    exact ⟨fun d hd => by rw [A d 2 (by omega) (by omega)]; exact o1 d hd, fun d hd => by rw [A d 2 (by omega) (by omega)]; exact o2 d hd, by rw [A 16 2 (by omega) (by omega)]; exact o3, by rw [A 16 3 (by omega) (by omega)]; exact o4, by rw [A 20 1 (by omega) (fun y => hn y.1.symm)]; exact o5, trivial⟩
  · unfold rl_num
    rw [T1, A20, A 20 2 (by omega) (fun y => hn y.1.symm), A 16 3 (by omega) (by omega), A 20 1 (by omega) (fun y => hn y.1.symm), hT1, ← nI_1]
  · rw [F, Tk 1 (by decide) (by decide) (by decide)]; exact h3
  · rw [Tk 2 (by decide) (by decide) (by decide)]; exact h4.c (fun q b hq _ => by rw [F])
  · rw [Tk 3 (by decide) (by decide) (by decide)]; exact h5.c (fun q hq => A _ _ (by omega) (by omega))
  · rw [TJ]
    intro q hq
    by_cases e : q = p
    · subst e; rw [pk_uLs, A4, td, hT1, lN_add]
    · rw [pk_uLn e, A _ 4 (by omega) (fun z => e (rl_inj q hq p hp z.1))]; exact h6 q hq
  · rw [T5]
    intro q hq
    rw [A _ 0 (fun z => rl_n20 q hq z.1) (by omega)]
    by_cases e : q = p
    · subst e; rw [pk_us, c0]; rfl
    · rw [pk_un e]; exact h7 q hq
  · intro q hq c
    rw [A _ 0 (fun z => rl_n20 q hq z.1) (by omega)] at c
    by_cases e : q = p
    · subst e; exact absurd c0 c
    · have ne : rl_u q ≠ rl_u p := fun z => e (rl_inj q hq p hp z)
      rw [A _ 5 (by omega) (by omega), A _ 1 (by omega) (fun z => ne z.1), F, T6, T7, Tk 8 (by decide) (by decide) (by decide), pk_un e, pk_un e]
      exact h8 q hq c
  · exact h9.c (A _ _ (by omega) (by omega)) (A _ _ (by omega) (by omega)) (by rw [F]) (Tk 14 (by decide) (by decide) (by decide)) (Tk 9 (by decide) (by decide) (by decide))
  · exact h10.c (fun l hl => A _ _ (by omega) (by omega)) (Tk 10 (by decide) (by decide) (by decide))
  · exact h11.c (fun l k hl hk => A _ _ (by omega) (by omega)) (fun l k hl => by rw [F]) (Tk 11 (by decide) (by decide) (by decide)) (Tk 12 (by decide) (by decide) (by decide))
  · exact h12.c (A _ _ (by omega) (fun y => hn y.1.symm)) (by rw [F]) (Tk 13 (by decide) (by decide) (by decide))
  · rw [Tk 14 (by decide) (by decide) (by decide)]; exact h13
/-- the unit has something to bring -/
theorem RLg.bring (h : RLg S T) {p : Nat} (hp : p < 10) {mn : Nat} (hm : mn + um_words (rl_u p) ≤ 4000) (f : Nat → Int32) (t1 : T'.1 = T.1) (tJ : T'.2.1 = T.2.1) (t5 : T'.2.2 5 = upd (T.2.2 5) p 1) (t6p : T'.2.2 6 p = nI mn) (t6 : ∀ q, q ≠ p → T'.2.2 6 q = T.2.2 6 q) (t7 : T'.2.2 7 = T.2.2 7) (k7 : ∃ k, T.2.2 7 p = nI k ∧ S.1 (rl_u p) 1 = k + 1) (t8 : ∀ q i, q ≠ p → i < 100 → T'.2.2 8 (100 * q + i) = T.2.2 8 (100 * q + i)) (t8p : ∀ i, i < um_words (rl_u p) → f i = fo_told (T'.2.2 8 (100 * p + i))) (tk : ∀ k, k ≠ 5 → k ≠ 6 → k ≠ 7 → k ≠ 8 → T'.2.2 k = T.2.2 k) : RLg (um_sA (um_sA (um_sF S (rl_u p) 1 f) (rl_u p) 0 1) (rl_u p) 5 mn) T' := by
  obtain ⟨⟨hB, hO⟩, h2, h3, h4, h5, h6, h7, h8, h9, h10, h11, h12, h13⟩ := h
  have hn := rl_n20 p hp
  have A : ∀ d k, ¬ (d = rl_u p ∧ (k = 0 ∨ k = 5)) → (um_sA (um_sA (um_sF S (rl_u p) 1 f) (rl_u p) 0 1) (rl_u p) 5 mn).1 d k = S.1 d k := fun d k z => by
    rw [um_sA_n _ (fun y => z ⟨y.1, Or.inr y.2⟩), um_sA_n _ (fun y => z ⟨y.1, Or.inl y.2⟩)]; rfl
  have A0 : (um_sA (um_sA (um_sF S (rl_u p) 1 f) (rl_u p) 0 1) (rl_u p) 5 mn).1 (rl_u p) 0 = 1 := by rw [um_sA_n _ (by omega), um_sA_1]
  have A5 : (um_sA (um_sA (um_sF S (rl_u p) 1 f) (rl_u p) 0 1) (rl_u p) 5 mn).1 (rl_u p) 5 = mn := um_sA_1 _ _ _ _
  have F : ∀ d k, ¬ (d = rl_u p ∧ k = 1) → (um_sA (um_sA (um_sF S (rl_u p) 1 f) (rl_u p) 0 1) (rl_u p) 5 mn).2 d k = S.2 d k := fun d k z => um_sF_n S z
  have F1 : (um_sA (um_sA (um_sF S (rl_u p) 1 f) (rl_u p) 0 1) (rl_u p) 5 mn).2 (rl_u p) 1 = f := um_sF_1 S (rl_u p) 1 f
  generalize um_sA (um_sA (um_sF S (rl_u p) 1 f) (rl_u p) 0 1) (rl_u p) 5 mn = S' at *
  refine ⟨⟨fun d k => ?_, ?_⟩, ?_, ?_, ?_, ?_, ?_, ?_, ?_, ?_, ?_, ?_, ?_, ?_⟩
  · by_cases z : d = rl_u p ∧ (k = 0 ∨ k = 5)
    · rw [z.1]
      rcases z.2 with rfl | rfl
      · rw [A0]; decide
      · rw [A5]; omega
    · rw [A d k z]; exact hB d k
  · obtain ⟨o1, o2, o3, o4, o5, o6⟩ := hO
    exact ⟨fun d hd => by rw [A d 2 (by omega)]; exact o1 d hd, fun d hd => by rw [A d 2 (by omega)]; exact o2 d hd, by rw [A 16 2 (by omega)]; exact o3, by rw [A 16 3 (by omega)]; exact o4, by rw [A 20 1 (by omega)]; exact o5, trivial⟩
  · unfold rl_num
    rw [t1, A 20 2 (by omega), A 20 0 (fun y => hn y.1.symm), A 16 3 (by omega), A 20 1 (by omega)]
    exact h2
  · rw [F 20 2 (by omega), tk 1 (by decide) (by decide) (by decide) (by decide)]; exact h3
  · rw [tk 2 (by decide) (by decide) (by decide) (by decide)]; exact h4.c (fun q b hq _ => F _ _ (by omega))
  · rw [tk 3 (by decide) (by decide) (by decide) (by decide)]; exact h5.c (fun q hq => A _ _ (by omega))
  · rw [tJ]; exact h6.c (fun q hq => A _ _ (by omega))
  · rw [t5]
    intro q hq
    by_cases e : q = p
    · subst e; rw [pk_us, A0]; rfl
    · rw [pk_un e, A _ 0 (fun z => e (rl_inj q hq p hp z.1))]; exact h7 q hq
  · intro q hq c
    by_cases e : q = p
    · subst e
      rw [A5, A _ 1 (by omega), F1, t6p, t7]
      exact ⟨rfl, hm, k7, t8p⟩
    · have ne : rl_u q ≠ rl_u p := fun z => e (rl_inj q hq p hp z)
      rw [A _ 0 (fun z => ne z.1)] at c
      rw [A _ 5 (fun z => ne z.1), A _ 1 (fun z => ne z.1), F _ 1 (fun z => ne z.1), t6 q e, t7]
      obtain ⟨g1, g2, g3, g4⟩ := h8 q hq c
      have hw := um_words_le (rl_u q)
      exact ⟨g1, g2, g3, fun i hi => by rw [t8 q i e (by omega)]; exact g4 i hi⟩
  · exact h9.c (A _ _ (by omega)) (A _ _ (by omega)) (F _ _ (by omega)) (tk 14 (by decide) (by decide) (by decide) (by decide)) (tk 9 (by decide) (by decide) (by decide) (by decide))
  · exact h10.c (fun l hl => A _ _ (by omega)) (tk 10 (by decide) (by decide) (by decide) (by decide))
  · exact h11.c (fun l k hl hk => A _ _ (by omega)) (fun l k hl => F _ _ (by omega)) (tk 11 (by decide) (by decide) (by decide) (by decide)) (tk 12 (by decide) (by decide) (by decide) (by decide))
  · exact h12.c (A _ _ (by omega)) (F _ _ (by omega)) (tk 13 (by decide) (by decide) (by decide) (by decide))
  · rw [tk 14 (by decide) (by decide) (by decide) (by decide)]; exact h13
/-- a tape stands elsewhere -/
theorem RLg.pos (h : RLg S T) {p v : Nat} (hp : p < 4) (hv : v ≤ 64) (t1 : T'.1 = T.1) (tJ : T'.2.1 = T.2.1) (t3 : T'.2.2 3 = upd (T.2.2 3) p (nI v)) (tk : ∀ k, k ≠ 3 → T'.2.2 k = T.2.2 k) : RLg (um_sA S p 2 v) T' := by
  obtain ⟨⟨hB, hO⟩, h2, h3, h4, h5, h6, h7, h8, h9, h10, h11, h12, h13⟩ := h
  have A : ∀ d k, ¬ (d = p ∧ k = 2) → (um_sA S p 2 v).1 d k = S.1 d k := fun d k z => um_sA_n _ z
  have A2 : (um_sA S p 2 v).1 p 2 = v := um_sA_1 _ _ _ _
  have F : (um_sA S p 2 v).2 = S.2 := rfl
  generalize um_sA S p 2 v = S' at *
  refine ⟨⟨fun d k => ?_, ?_⟩, ?_, ?_, ?_, ?_, ?_, ?_, ?_, ?_, ?_, ?_, ?_, ?_⟩
  · by_cases z : d = p ∧ k = 2
    · rw [z.1, z.2, A2]; omega
    · rw [A d k z]; exact hB d k
  · obtain ⟨o1, o2, o3, o4, o5, o6⟩ := hO
    refine ⟨fun d hd => ?_, fun d hd => ?_, by rw [A 16 2 (by omega)]; exact o3, by rw [A 16 3 (by omega)]; exact o4, by rw [A 20 1 (by omega)]; exact o5, trivial⟩
    · by_cases z : d = p
      · rw [z, A2]; exact hv
      · rw [A d 2 (fun y => z y.1)]; exact o1 d hd
    · have hk : um_kind p = 0 := ((rl_ut p (by omega)).2.2.2.2.2.2.1 hp).2
      rw [A d 2 (fun y => by rw [y.1, hk] at hd; cases hd)]; exact o2 d hd
  · unfold rl_num
    rw [t1, A 20 2 (by omega), A 20 0 (by omega), A 16 3 (by omega), A 20 1 (by omega)]
    exact h2
  · rw [F, tk 1 (by decide)]; exact h3
  · rw [tk 2 (by decide)]; exact h4.c (fun q b hq _ => by rw [F])
  · rw [t3]
    intro q hq
    by_cases e : q = p
    · subst e; rw [pk_us, A2]
    · rw [pk_un e, A q 2 (fun z => e z.1)]; exact h5 q hq
  · rw [tJ]; exact h6.c (fun q hq => A _ _ (by omega))
  · rw [tk 5 (by decide)]; exact h7.c (fun q hq => A _ _ (by omega))
  · exact h8.c (fun q k hq hk => A _ _ (by omega)) (fun q hq => by rw [F]) (tk 6 (by decide)) (tk 7 (by decide)) (tk 8 (by decide))
  · exact h9.c (A _ _ (by omega)) (A _ _ (by omega)) (by rw [F]) (tk 14 (by decide)) (tk 9 (by decide))
  · exact h10.c (fun l hl => A _ _ (by omega)) (tk 10 (by decide))
  · exact h11.c (fun l k hl hk => A _ _ (by omega)) (fun l k hl => by rw [F]) (tk 11 (by decide)) (tk 12 (by decide))
  · exact h12.c (A _ _ (by omega)) (by rw [F]) (tk 13 (by decide))
  · rw [tk 14 (by decide)]; exact h13
/-- a block is written -/
theorem RLg.blk (h : RLg S T) {p b mn : Nat} (hp : p < 6) (hb : b < 64) (hm : mn + 100 ≤ 4000) : RLg (um_sF S (rl_u p) (3 + b) (um_cin (S.2 20 2) (S.2 (rl_u p) (3 + b)) (nI mn) 100)) (fo_pa T 2 (fo_cp (T.2.2 2) (T.2.2 1) (100 * (64 * p + b)) mn 100)) := by
  obtain ⟨⟨hB, hO⟩, h2, h3, h4, h5, h6, h7, h8, h9, h10, h11, h12, h13⟩ := h
  have hn := rl_n20 p (by omega)
  have hn16 := rl_n16 p (by omega) (by omega)
  have A : (um_sF S (rl_u p) (3 + b) (um_cin (S.2 20 2) (S.2 (rl_u p) (3 + b)) (nI mn) 100)).1 = S.1 := rfl
  have F : ∀ d k, ¬ (d = rl_u p ∧ k = 3 + b) → (um_sF S (rl_u p) (3 + b) (um_cin (S.2 20 2) (S.2 (rl_u p) (3 + b)) (nI mn) 100)).2 d k = S.2 d k := fun d k z => um_sF_n S z
  have F1 : (um_sF S (rl_u p) (3 + b) (um_cin (S.2 20 2) (S.2 (rl_u p) (3 + b)) (nI mn) 100)).2 (rl_u p) (3 + b) = um_cin (S.2 20 2) (S.2 (rl_u p) (3 + b)) (nI mn) 100 := um_sF_1 S _ _ _
  generalize um_sF S (rl_u p) (3 + b) (um_cin (S.2 20 2) (S.2 (rl_u p) (3 + b)) (nI mn) 100) = S' at *
  have tk : ∀ k, k ≠ 2 → (fo_pa T 2 (fo_cp (T.2.2 2) (T.2.2 1) (100 * (64 * p + b)) mn 100)).2.2 k = T.2.2 k := fun k z => fo_pa_n T _ z
  have hw : ∀ l, l < 3 → 17 + l ≠ rl_u p := by
    intro l hl e
    have := rl_inj p (by omega) (7 + l) (by omega) (by rw [← e]; rcases (show l = 0 ∨ l = 1 ∨ l = 2 by omega) with rfl | rfl | rfl <;> decide)
    omega
  refine ⟨⟨fun d k => by rw [A]; exact hB d k, ?_⟩, ?_, ?_, ?_, ?_, ?_, ?_, ?_, ?_, ?_, ?_, ?_, ?_⟩
  · unfold um_Ok; rw [A]; exact hO
  · unfold rl_num; rw [A]; exact h2
  · rw [F 20 2 (fun z => hn z.1.symm), tk 1 (by decide)]; exact h3
  · rw [fo_pa_s]
    intro q c i hq hc hi
    unfold fo_cp
    by_cases e : q = p ∧ c = b
    · obtain ⟨rfl, rfl⟩ := e
      rw [F1, um_cin_t (by rw [show (nI 100 : Int32) = nI 100 from rfl, um_holds_iff (by omega) (by decide)]; exact decide_eq_true hm), nI_clamp (by omega), pk_cpy_in (Nat.zero_le _) (by omega), if_pos (by omega), show 100 * (64 * q + c) + i - 100 * (64 * q + c) = i - 0 by omega]
      exact h3 _ (by omega)
    · rw [F _ _ (fun z => e ⟨rl_inj q (by omega) p (by omega) z.1, by omega⟩), if_neg (by omega)]
      exact h4 q c i hq hc hi
  · rw [tk 3 (by decide)]; exact h5.c (fun q hq => by rw [A])
  · exact h6.c (fun q hq => by rw [A])
  · rw [tk 5 (by decide)]; exact h7.c (fun q hq => by rw [A])
  · exact h8.c (fun q k hq hk => by rw [A]) (fun q hq => F _ _ (by omega)) (tk 6 (by decide)) (tk 7 (by decide)) (tk 8 (by decide))
  · exact h9.c (by rw [A]) (by rw [A]) (F _ _ (by omega)) (tk 14 (by decide)) (tk 9 (by decide))
  · exact h10.c (fun l hl => by rw [A]) (tk 10 (by decide))
  · exact h11.c (fun l k hl hk => by rw [A]) (fun l k hl => F _ _ (fun z => hw l hl z.1)) (tk 11 (by decide)) (tk 12 (by decide))
  · exact h12.c (by rw [A]) (F _ _ (fun z => hn z.1.symm)) (tk 13 (by decide))
  · rw [tk 14 (by decide)]; exact h13
/-- a card is gone -/
theorem RLg.shift (h : RLg S T) (hc : 0 < S.1 16 3) (t1 : T'.1 = (T.1.1, T.1.2.1, nI (S.1 16 3 - 1), T.1.2.2.2)) (tJ : T'.2.1 = T.2.1) (t9 : T'.2.2 9 = fo_sh (T.2.2 9) (80 * (S.1 16 3 - 1))) (tk : ∀ k, k ≠ 9 → T'.2.2 k = T.2.2 k) : RLg (um_sA (um_sA S 16 2 ((S.1 16 2 + 1) % 100)) 16 3 (S.1 16 3 - 1)) T' := by
  obtain ⟨⟨hB, hO⟩, h2, h3, h4, h5, h6, h7, h8, h9, h10, h11, h12, h13⟩ := h
  have A : ∀ d k, ¬ (d = 16 ∧ (k = 2 ∨ k = 3)) → (um_sA (um_sA S 16 2 ((S.1 16 2 + 1) % 100)) 16 3 (S.1 16 3 - 1)).1 d k = S.1 d k := fun d k z => by
    rw [um_sA_n _ (fun y => z ⟨y.1, Or.inr y.2⟩), um_sA_n _ (fun y => z ⟨y.1, Or.inl y.2⟩)]
  have A2 : (um_sA (um_sA S 16 2 ((S.1 16 2 + 1) % 100)) 16 3 (S.1 16 3 - 1)).1 16 2 = (S.1 16 2 + 1) % 100 := by rw [um_sA_n _ (by omega), um_sA_1]
  have A3 : (um_sA (um_sA S 16 2 ((S.1 16 2 + 1) % 100)) 16 3 (S.1 16 3 - 1)).1 16 3 = S.1 16 3 - 1 := um_sA_1 _ _ _ _
  have F : (um_sA (um_sA S 16 2 ((S.1 16 2 + 1) % 100)) 16 3 (S.1 16 3 - 1)).2 = S.2 := rfl
  generalize um_sA (um_sA S 16 2 ((S.1 16 2 + 1) % 100)) 16 3 (S.1 16 3 - 1) = S' at *
  have hT1 : T.1 = (lN (S.1 20 2), nI (S.1 20 0), nI (S.1 16 3), nI (S.1 20 1)) := h2
  have k16 : um_kind 16 = 2 := by decide
  refine ⟨⟨fun d k => ?_, ?_⟩, ?_, ?_, ?_, ?_, ?_, ?_, ?_, ?_, ?_, ?_, ?_, ?_⟩
  · by_cases z : d = 16 ∧ (k = 2 ∨ k = 3)
    · rw [z.1]
      rcases z.2 with rfl | rfl
      · rw [A2]; omega
      · rw [A3]; have := hB 16 3; omega
    · rw [A d k z]; exact hB d k
  · obtain ⟨o1, o2, o3, o4, o5, o6⟩ := hO
    exact ⟨fun d hd => by rw [A d 2 (fun y => by rw [y.1] at hd; omega)]; exact o1 d hd, fun d hd => by rw [A d 2 (fun y => by rw [y.1] at hd; omega)]; exact o2 d hd, by rw [A2]; omega, by rw [A3]; omega, by rw [A 20 1 (by omega)]; exact o5, trivial⟩
  · unfold rl_num
    rw [t1, A 20 2 (by omega), A 20 0 (by omega), A3, A 20 1 (by omega), hT1]
  · rw [F, tk 1 (by decide)]; exact h3
  · rw [tk 2 (by decide)]; exact h4.c (fun q b hq _ => by rw [F])
  · rw [tk 3 (by decide)]; exact h5.c (fun q hq => A _ _ (by omega))
  · rw [tJ]; exact h6.c (fun q hq => A _ _ (by omega))
  · rw [tk 5 (by decide)]; exact h7.c (fun q hq => A _ _ (by omega))
  · exact h8.c (fun q k hq hk => A _ _ (by omega)) (fun q hq => by rw [F]) (tk 6 (by decide)) (tk 7 (by decide)) (tk 8 (by decide))
  · intro c w hc' hw
    rw [A3] at hc'
    rw [A2, F, t9, tk 14 (by decide), show ((S.1 16 2 + 1) % 100 + c) % 100 = (S.1 16 2 + (c + 1)) % 100 by omega, h9 (c + 1) w (by omega) hw]
    refine (rl_cw_eq (fun i hi => ?_)).symm
    unfold fo_sh
    rw [if_pos (by omega), show 80 * c + 5 * w + i + 80 = 80 * (c + 1) + 5 * w + i by omega]
  · exact h10.c (fun l hl => A _ _ (by omega)) (tk 10 (by decide))
  · exact h11.c (fun l k hl hk => A _ _ (by omega)) (fun l k hl => by rw [F]) (tk 11 (by decide)) (tk 12 (by decide))
  · exact h12.c (A _ _ (by omega)) (by rw [F]) (tk 13 (by decide))
  · rw [tk 14 (by decide)]; exact h13
/-- a line more -/
theorem RLg.line (h : RLg S T) {l len : Nat} (hl : l < 3) (hk : S.1 (17 + l) 2 < 300) (hlen : len ≤ 120) (f : Nat → Int32) (t1 : T'.1 = T.1) (tJ : T'.2.1 = T.2.1) (t10 : T'.2.2 10 = upd (T.2.2 10) l (nI (S.1 (17 + l) 2 + 1))) (t11 : T'.2.2 11 = upd (T.2.2 11) (300 * l + S.1 (17 + l) 2) (nI len)) (t12 : ∀ j, ¬ (120 * (300 * l + S.1 (17 + l) 2) ≤ j ∧ j < 120 * (300 * l + S.1 (17 + l) 2) + 120) → T'.2.2 12 j = T.2.2 12 j) (hf : ∀ i, i < len → f i = T'.2.2 12 (120 * (300 * l + S.1 (17 + l) 2) + i)) (tk : ∀ k, k ≠ 10 → k ≠ 11 → k ≠ 12 → T'.2.2 k = T.2.2 k) : RLg (um_sA (um_sA (um_sF S (17 + l) (3 + S.1 (17 + l) 2) f) (17 + l) (6 + S.1 (17 + l) 2) len) (17 + l) 2 (S.1 (17 + l) 2 + 1)) T' := by
  obtain ⟨⟨hB, hO⟩, h2, h3, h4, h5, h6, h7, h8, h9, h10, h11, h12, h13⟩ := h
  have hkd : um_kind (17 + l) = 3 := by rcases (show l = 0 ∨ l = 1 ∨ l = 2 by omega) with rfl | rfl | rfl <;> decide
  generalize hkn : S.1 (17 + l) 2 = kn at *
  have A : ∀ d k, ¬ (d = 17 + l ∧ (k = 2 ∨ k = 6 + kn)) → (um_sA (um_sA (um_sF S (17 + l) (3 + kn) f) (17 + l) (6 + kn) len) (17 + l) 2 (kn + 1)).1 d k = S.1 d k := fun d k z => by
    rw [um_sA_n _ (fun y => z ⟨y.1, Or.inl y.2⟩), um_sA_n _ (fun y => z ⟨y.1, Or.inr y.2⟩)]; rfl
  have A2 : (um_sA (um_sA (um_sF S (17 + l) (3 + kn) f) (17 + l) (6 + kn) len) (17 + l) 2 (kn + 1)).1 (17 + l) 2 = kn + 1 := um_sA_1 _ _ _ _
  have A6 : (um_sA (um_sA (um_sF S (17 + l) (3 + kn) f) (17 + l) (6 + kn) len) (17 + l) 2 (kn + 1)).1 (17 + l) (6 + kn) = len := by rw [um_sA_n _ (by omega), um_sA_1]
  have F : ∀ d k, ¬ (d = 17 + l ∧ k = 3 + kn) → (um_sA (um_sA (um_sF S (17 + l) (3 + kn) f) (17 + l) (6 + kn) len) (17 + l) 2 (kn + 1)).2 d k = S.2 d k := fun d k z => um_sF_n S z
  have F1 : (um_sA (um_sA (um_sF S (17 + l) (3 + kn) f) (17 + l) (6 + kn) len) (17 + l) 2 (kn + 1)).2 (17 + l) (3 + kn) = f := um_sF_1 S (17 + l) (3 + kn) f
  generalize um_sA (um_sA (um_sF S (17 + l) (3 + kn) f) (17 + l) (6 + kn) len) (17 + l) 2 (kn + 1) = S' at *
  have hw : ∀ p, p < 10 → rl_u p = 17 + l → p = 7 + l := by
    intro p hp e
    exact rl_inj p hp (7 + l) (by omega) (by rw [e]; rcases (show l = 0 ∨ l = 1 ∨ l = 2 by omega) with rfl | rfl | rfl <;> decide)
  obtain ⟨o1, o2, o3, o4, o5, o6⟩ := hO
  refine ⟨⟨fun d k => ?_, ?_⟩, ?_, ?_, ?_, ?_, ?_, ?_, ?_, ?_, ?_, ?_, ?_, ?_⟩
  · by_cases z : d = 17 + l ∧ (k = 2 ∨ k = 6 + kn)
    · rw [z.1]
      rcases z.2 with rfl | rfl
      · rw [A2]; omega
      · rw [A6]; omega
    · rw [A d k z]; exact hB d k
  · refine ⟨fun d hd => by rw [A d 2 (fun y => by rw [y.1] at hd; omega)]; exact o1 d hd, fun d hd => ?_, by rw [A 16 2 (by omega)]; exact o3, by rw [A 16 3 (by omega)]; exact o4, by rw [A 20 1 (by omega)]; exact o5, trivial⟩
    by_cases z : d = 17 + l
    · rw [z, A2]; omega
    · rw [A d 2 (fun y => z y.1)]; exact o2 d hd
  · unfold rl_num
    rw [t1, A 20 2 (by omega), A 20 0 (by omega), A 16 3 (by omega), A 20 1 (by omega)]
    exact h2
  · rw [F 20 2 (by omega), tk 1 (by decide) (by decide) (by decide)]; exact h3
  · rw [tk 2 (by decide) (by decide) (by decide)]; exact h4.c (fun q b hq _ => F _ _ (fun z => by have := hw q (by omega) z.1; omega))
  · rw [tk 3 (by decide) (by decide) (by decide)]; exact h5.c (fun q hq => A _ _ (by omega))
  · rw [tJ]; exact h6.c (fun q hq => A _ _ (by omega))
  · rw [tk 5 (by decide) (by decide) (by decide)]; exact h7.c (fun q hq => A _ _ (by omega))
  · exact h8.c (fun q k hq hk => A _ _ (by omega)) (fun q hq => F _ _ (by omega)) (tk 6 (by decide) (by decide) (by decide)) (tk 7 (by decide) (by decide) (by decide)) (tk 8 (by decide) (by decide) (by decide))
  · exact h9.c (A _ _ (by omega)) (A _ _ (by omega)) (F _ _ (by omega)) (tk 14 (by decide) (by decide) (by decide)) (tk 9 (by decide) (by decide) (by decide))
  · intro l' hl'
    rw [t10]
    by_cases e : l' = l
    · subst e; rw [pk_us, A2]
    · rw [pk_un e, A _ 2 (by omega)]; exact h10 l' hl'
  · refine ⟨fun l' k hl' hk' => ?_, fun j hj => ?_⟩
    · have e300 : S.1 (17 + l') 2 ≤ 300 := o2 (17 + l') (by rcases (show l' = 0 ∨ l' = 1 ∨ l' = 2 by omega) with rfl | rfl | rfl <;> decide)
      by_cases e : l' = l ∧ k = kn
      · obtain ⟨rfl, rfl⟩ := e
        rw [t11, pk_us, A6, F1]
        exact ⟨rfl, hlen, hf⟩
      · have hk2 : k < S.1 (17 + l') 2 := by
          by_cases z : l' = l
          · subst z; rw [A2] at hk'; omega
          · rw [A _ 2 (by omega)] at hk'; exact hk'
        rw [t11, pk_un (by omega), A _ (6 + k) (by omega), F _ _ (by omega)]
        obtain ⟨g1, g2, g3⟩ := h11.1 l' k hl' hk2
        exact ⟨g1, g2, fun i hi => by rw [t12 _ (by omega)]; exact g3 i hi⟩
    · rw [t11]
      by_cases e : j = 300 * l + kn
      · subst e; rw [pk_us]; exact nI_le (b := 120) hlen (by decide)
      · rw [pk_un e]; exact h11.2 j hj
  · exact h12.c (A _ _ (by omega)) (F _ _ (by omega)) (tk 13 (by decide) (by decide) (by decide))
  · rw [tk 14 (by decide) (by decide) (by decide)]; exact h13
end RLW
