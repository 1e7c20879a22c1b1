/-! operate: the step -/
theorem rl_rem5 {k : Nat} (hk : k < 2 ^ 20) : nI k - nI k / 5 * 5 = nI (k % 5) := by
  rw [show (5 : Int32) = nI 5 from rfl, pk_rem (by omega) (by decide) (by decide)]
theorem rl_byteW {g me : Nat → Int32} (hm : rl_mem g me) {mn k : Nat} (h : mn + k / 5 < 4000) (hk : k < 2 ^ 20) : um_byte g (nI mn) (nI k) = (me (mn + k / 5) >>> ((24 - 6 * (nI k - nI k / 5 * 5)) &&& 31)) &&& 63 := by
  unfold um_byte
  rw [rl_rem5 hk, fo_d5 hk, nI_add]
  have e : um_at g (nI (mn + k / 5)) = g (mn + k / 5) := by
    unfold um_at
    rw [if_pos (by rw [show (1 : Int32) = nI 1 from rfl, um_holds_iff (by omega) (by decide)]; exact decide_eq_true (by omega)), nI_clamp (by omega)]
  rw [e, hm _ h]
  exact rl_byte _ (k % 5) (Nat.mod_lt _ (by decide))
theorem rl_wc {g me : Nat → Int32} (hm : rl_mem g me) {mn k : Nat} (h : mn + k / 5 < 4000) (hk : k < 2 ^ 20) : um_letter (um_byte g (nI mn) (nI k)) = fo_wc (fo_alp 56) me mn k ∧ (fo_wc (fo_alp 56) me mn k = 32 ↔ um_byte g (nI mn) (nI k) = 0) := by
  have e := rl_byteW hm h hk
  unfold fo_wc
  rw [← e]
  obtain ⟨j, hj, ej⟩ := pk_andE (me (mn + k / 5) >>> ((24 - 6 * (nI k - nI k / 5 * 5)) &&& 31)) (m := 63) 6 (by decide)
  rw [e, ej]
  exact rl_let0 j hj
theorem rl_len {g me : Nat → Int32} (hm : rl_mem g me) {mn w : Nat} (hw : mn + w ≤ 4000) : ∀ k, k ≤ 5 * w → fo_wn (fo_alp 56) me mn k = nI (um_len g (nI mn) k) := by
  intro k
  induction k with
  | zero => intro _; rfl
  | succ k ih =>
    intro hk
    obtain ⟨-, e⟩ := rl_wc hm (mn := mn) (k := k) (by omega) (by omega)
    rw [fo_wn, um_len, nI_pred]
    by_cases c : um_byte g (nI mn) (nI k) = 0
    · rw [if_pos c, if_pos (e.mpr c)]; exact ih (by omega)
    · rw [if_neg c, if_neg (fun z => c (e.mp z)), nI_1]
theorem rl_wl (g al me : Nat → Int32) (mn L : Nat) : ∀ k j, fo_wl g al me mn L k j = if 120 * L ≤ j ∧ j < 120 * L + k then vp_nar .byte (fo_wc al me mn (j - 120 * L)).toInt8.toInt32 else g j := by
  intro k
  induction k with
  | zero => intro j; rw [if_neg (by omega)]; rfl
  | succ k ih =>
    intro j
    rw [fo_wl]
    by_cases e : j = 120 * L + k
    · subst e; rw [pk_us, if_pos (by omega), show 120 * L + k - 120 * L = k by omega]
    · rw [pk_un e, ih j]
      by_cases q : 120 * L ≤ j ∧ j < 120 * L + k
      · rw [if_pos q, if_pos (by omega)]
      · rw [if_neg q, if_neg (by omega)]
theorem rl_rb (br al cb : Nat → Int32) : ∀ k j, fo_rb br al cb k j = if 600 ≤ j ∧ j < 600 + k then fo_cw al cb (5 * (j - 600)) else br j := by
  intro k
  induction k with
  | zero => intro j; rw [if_neg (by omega)]; rfl
  | succ k ih =>
    intro j
    rw [fo_rb]
    by_cases e : j = 600 + k
    · subst e; rw [pk_us, if_pos (by omega), show 600 + k - 600 = k by omega]
    · rw [pk_un e, ih j]
      by_cases q : 600 ≤ j ∧ j < 600 + k
      · rw [if_pos q, if_pos (by omega)]
      · rw [if_neg q, if_neg (by omega)]
theorem rl_ps (s m : Int32) : fo_ps s m = um_posT s m := by
  unfold fo_ps um_posT um_pos fo_a
  by_cases h0 : m = 0
  · rw [if_pos h0, if_pos h0]; decide
  · rw [if_neg h0, if_neg h0]
    generalize s.toInt64 + m.toInt64 = v
    unfold lg_cmp
    have c64 : (64 : Int64).toInt = 64 := by decide
    have c0 : (0 : Int64).toInt = 0 := by decide
    by_cases a : v < 0
    · have a1 := Int64.lt_iff_toInt_lt.mp a
      rw [if_neg (show ¬ v > 0 from fun z => by have := Int64.lt_iff_toInt_lt.mp z; omega), if_neg (show ¬ v = 0 from fun z => by rw [z] at a1; omega), if_neg (show ¬ (0 : Int32) ≤ -1 by decide), if_pos (show v < 64 from Int64.lt_iff_toInt_lt.mpr (by omega)), if_pos a]
      rfl
    · have a1 : ¬ v.toInt < 0 := fun z => a (Int64.lt_iff_toInt_lt.mpr (by rw [c0]; exact z))
      rw [if_pos (show (0 : Int32) ≤ (if v > 0 then 1 else if v = 0 then 0 else -1) from ?_)]
      · by_cases b : v < 64
        · have b1 := Int64.lt_iff_toInt_lt.mp b
          rw [if_pos b, if_neg a, if_neg (show ¬ v > 64 from fun z => by have := Int64.lt_iff_toInt_lt.mp z; omega), if_neg (show ¬ v = 64 from fun z => by rw [z] at b1; omega), if_pos (by decide)]
        · rw [if_neg b, if_neg (show ¬ (64 : Int64) < 0 by decide)]
          by_cases d : v > 64
          · rw [if_pos d, if_neg (by decide)]; rfl
          · have e : v = 64 := Int64.le_antisymm (Int64.not_lt.mp d) (Int64.not_lt.mp b)
            rw [if_neg d, if_pos e, if_pos (by decide), e]
      · by_cases b : v > 0
        · rw [if_pos b]; decide
        · have e : v = 0 := Int64.le_antisymm (Int64.not_lt.mp b) (Int64.not_lt.mp a)
          rw [if_neg b, if_pos e]; decide
section RLO
variable {n : Nat} {S : um_S} {T T' : fo_S}
theorem rl_best0 (h : RL n S T) : fo_best (T.2.2 5) T.2.1 (T.2.2 7) T.1.1 10 < 0 := by
  rcases rl_nd h.g with ⟨-, o2⟩ | ⟨p, hp, o1, -, -⟩
  · exact fo_neg1 o2
  · have := (um_nd_k o1).2.2
    rw [h.1.2.2.1] at this
    cases this
theorem RL.gg (h : RL n S T) (hn : n ≤ 600) {p : Nat} (hp : p < 10) : RLg (um_goTo S (max (S.1 20 2) (S.1 (rl_u p) 4))) (fo_gg T p) ∧ ∀ u, um_due (um_goTo S (max (S.1 20 2) (S.1 (rl_u p) 4))) u = false := by
  have b1 := h.1.2.2.2.1
  have b2 := h.1.2.2.2.2.1 (rl_u p)
  have hB := h.1.1
  obtain ⟨q1, q2⟩ := h.g.goTo (t := max (S.1 20 2) (S.1 (rl_u p) 4)) (by omega)
  refine ⟨?_, q2⟩
  have eJ := h.2.2.2.2.2.1 p hp
  have eT : T.1.1 = lN (S.1 20 2) := by rw [h.num]
  unfold fo_gg
  rw [eJ, eT]
  by_cases c : lg_cmp (lN (S.1 (rl_u p) 4)) (lN (S.1 20 2)) ≤ 0
  · rw [if_pos c]
    have c2 := (um_cmp_le (hB _ _) (hB _ _)).mp c
    rw [Nat.max_eq_left c2] at q1 ⊢
    have e : fo_po T (lN (S.1 20 2), T.1.2) = T := by rw [← eT]; rfl
    rw [e, fo_goS_end (rl_best0 h)] at q1
    exact q1
  · rw [if_neg c]
    have c2 : S.1 20 2 ≤ S.1 (rl_u p) 4 := by
      rcases Nat.le_total (S.1 20 2) (S.1 (rl_u p) 4) with z | z
      · exact z
      · exact absurd ((um_cmp_le (hB _ _) (hB _ _)).mpr z) c
    rw [Nat.max_eq_right c2] at q1 ⊢
    exact q1
theorem rl_wkf {B : um_S} {d : Nat} (hd4 : um_kind d ≠ 4) (op m x : Int32) (y k : Nat) (h : y ≠ d ∨ k = 4) : (um_wk B d op m x).1 y k = B.1 y k := by
  have e : ∀ (S : um_S) (j v : Nat), j ≠ 4 → (um_sA S d j v).1 y k = S.1 y k := fun S j v hj => um_sA_n S (fun z => by
    rcases h with q | q
    · exact q z.1
    · exact hj (z.2.symm.trans q))
  unfold um_wk
  rcases um_kinds hd4 with q | q | q | q
  · rw [if_pos q]
    unfold um_wT
    by_cases h0 : op = 0
    · rw [if_pos h0, e _ _ _ (by decide)]
    · rw [if_neg h0]
      by_cases h1 : op = 1
      · rw [if_pos h1, e _ _ _ (by decide), e _ _ _ (by decide), e _ _ _ (by decide)]; rfl
      · rw [if_neg h1, e _ _ _ (by decide)]; rfl
  · rw [if_neg (show ¬ um_kind d = 0 by omega), if_pos q]
    unfold um_wK
    by_cases h0 : op = 0
    · rw [if_pos h0]
    · rw [if_neg h0]
      by_cases h1 : op = 1
      · rw [if_pos h1, e _ _ _ (by decide), e _ _ _ (by decide)]; rfl
      · rw [if_neg h1]; rfl
  · rw [if_neg (show ¬ um_kind d = 0 by omega), if_neg (show ¬ um_kind d = 1 by omega), if_pos q]
    unfold um_wR
    rw [e _ _ _ (by decide), e _ _ _ (by decide), e _ _ _ (by decide), e _ _ _ (by decide)]; rfl
  · rw [if_neg (show ¬ um_kind d = 0 by omega), if_neg (show ¬ um_kind d = 1 by omega), if_neg (show ¬ um_kind d = 2 by omega)]
    unfold um_wW
    by_cases hf : B.1 d 2 = 300
    · rw [if_pos hf]
    · rw [if_neg hf]
      by_cases h0 : op = 0
      · rw [if_pos h0, e _ _ _ (by decide), e _ _ _ (by omega)]; rfl
      · rw [if_neg h0, e _ _ _ (by decide), e _ _ _ (by omega)]; rfl
theorem RL.fin (h : RL n S T) {p : Nat} (hp : p < 10) {op m x : Int32} (hd : ∀ u, um_due (um_goTo S (max (S.1 20 2) (S.1 (rl_u p) 4))) u = false) (hW : RLg (um_wk (um_bgn S (rl_u p)) (rl_u p) op m x) T') : RL (n + 1) (um_wk (um_bgn S (rl_u p)) (rl_u p) op m x) T' := by
  have b1 := h.1.2.2.2.1
  have b2 := h.1.2.2.2.2.1
  have b3 := h.1.2.2.2.2.2
  have b2p := b2 (rl_u p)
  have hn := rl_n20 p hp
  obtain ⟨hk, -, -, -, td1, td0, -, -, -, -⟩ := rl_ut p hp
  have f := rl_wkf (B := um_bgn S (rl_u p)) hk op m x
  have B4 : (um_bgn S (rl_u p)).1 (rl_u p) 4 = max (S.1 20 2) (S.1 (rl_u p) 4) + um_dur (rl_u p) := by
    unfold um_bgn
    rw [um_sA_n _ (by omega), um_sA_1]
  have By : ∀ y k, y ≠ rl_u p → ¬ (y = 20 ∧ k = 0) → (um_bgn S (rl_u p)).1 y k = (um_goTo S (max (S.1 20 2) (S.1 (rl_u p) 4))).1 y k := fun y k z1 z2 => by
    unfold um_bgn
    rw [um_sA_n _ (fun z => z1 z.1), um_sA_n _ (fun z => z1 z.1), um_sA_n _ z2]
  have B0 : (um_bgn S (rl_u p)).1 20 0 = S.1 20 0 + 1 := by
    unfold um_bgn
    rw [um_sA_n _ (fun z => hn z.1.symm), um_sA_n _ (fun z => hn z.1.symm), um_sA_1]
  have e20 : (um_wk (um_bgn S (rl_u p)) (rl_u p) op m x).1 20 2 = max (S.1 20 2) (S.1 (rl_u p) 4) := by
    rw [f 20 2 (Or.inl (Ne.symm hn)), By 20 2 (Ne.symm hn) (by omega), um_goTo_now]
  refine hW.rl (fun u => ?_) ?_ (fun d => ?_) ?_
  · by_cases k4 : um_kind u = 4
    · exact um_due_4 k4
    · by_cases z : u = rl_u p
      · subst z
        unfold um_due
        rw [e20, f _ 4 (Or.inr rfl), B4, decide_eq_false (p := max (S.1 20 2) (S.1 (rl_u p) 4) + um_dur (rl_u p) ≤ max (S.1 20 2) (S.1 (rl_u p) 4)) (by omega), Bool.and_false]
      · have u20 := um_d20 k4
        rw [rl_due (S := um_goTo S (max (S.1 20 2) (S.1 (rl_u p) 4))) ((f u 0 (Or.inl z)).trans (By u 0 z (fun y => u20 y.1))) ((f u 4 (Or.inl z)).trans (By u 4 z (by omega))) (by rw [e20, um_goTo_now])]
        exact hd u
  · rw [e20]; omega
  · by_cases z : d = rl_u p
    · subst z; rw [f _ 4 (Or.inr rfl), B4]; omega
    · rw [f d 4 (Or.inl z), By d 4 z (by omega), rl_goTo_4]; have := b2 d; omega
  · rw [f 20 0 (Or.inl (Ne.symm hn)), B0]; omega
theorem rl_bg5 (T : fo_S) (p : Nat) (m : Int32) : (fo_bg T p 1 m).2.2 5 = upd ((fo_bg T p 0 m).2.2 5) p 1 := by
  have e : ∀ op : Int32, (fo_bg T p op m).2.2 5 = upd (T.2.2 5) p (if op = 1 then 1 else 0) := fun op => by
    unfold fo_bg
    rw [fo_pa_n _ _ (by decide), fo_pa_s]
  rw [e 1, e 0, if_pos rfl, if_neg (by decide)]
  funext j
  by_cases z : j = p
  · subst z; rw [pk_us, pk_us]
  · rw [pk_un z, pk_un z, pk_un z]
theorem rl_bg6 (T : fo_S) (p : Nat) (op m : Int32) : (fo_bg T p op m).2.2 6 = upd (T.2.2 6) p m := fo_pa_s _ _ _
theorem rl_bg7 (T : fo_S) (p : Nat) (op m : Int32) : (fo_bg T p op m).2.2 7 = upd (T.2.2 7) p T.1.2.1 := by
  unfold fo_bg
  rw [fo_pa_n _ _ (by decide), fo_pa_n _ _ (by decide)]
  exact fo_pa_s _ _ _
theorem rl_bgk (T : fo_S) (p : Nat) (op m : Int32) (k : Nat) (h5 : k ≠ 5) : (fo_bg T p op m).2.2 k = (fo_bg T p 0 m).2.2 k := by
  by_cases h6 : k = 6
  · subst h6; rw [rl_bg6, rl_bg6]
  · by_cases h7 : k = 7
    · subst h7; rw [rl_bg7, rl_bg7]
    · rw [fo_bg_r _ _ _ _ _ h5 h6 h7, fo_bg_r _ _ _ _ _ h5 h6 h7]
/-- IN: the unit has something to bring -/
theorem RLg.inn {B : um_S} {Tg : fo_S} {p mn b : Nat} (hp : p < 10) (h0 : RLg B (fo_bg Tg p 0 (nI mn))) (hb : B.1 (rl_u p) 1 = b + 1) (hT : Tg.1.2.1 = nI b) (hm : mn + um_words (rl_u p) ≤ 4000) (f br : Nat → Int32) (h8 : ∀ q i, q ≠ p → i < 100 → br (100 * q + i) = (fo_bg Tg p 1 (nI mn)).2.2 8 (100 * q + i)) (hf : ∀ i, i < um_words (rl_u p) → f i = fo_told (br (100 * p + i))) : RLg (um_sA (um_sA (um_sF B (rl_u p) 1 f) (rl_u p) 0 1) (rl_u p) 5 mn) (fo_pa (fo_bg Tg p 1 (nI mn)) 8 br) := by
  refine h0.bring hp hm f rfl rfl ?_ ?_ (fun q hq => ?_) ?_ ⟨b, ?_, hb⟩ (fun q i hq hi => ?_) (fun i hi => ?_) (fun k k5 k6 k7 k8 => ?_)
  · rw [fo_pa_n _ _ (by decide)]; exact rl_bg5 _ _ _
  · rw [fo_pa_n _ _ (by decide), rl_bg6, pk_us]
  · rw [fo_pa_n _ _ (by decide), rl_bg6, rl_bg6]
  · rw [fo_pa_n _ _ (by decide)]; exact rl_bgk _ _ _ _ _ (by decide)
  · rw [rl_bg7, pk_us]; exact hT
  · rw [fo_pa_s, h8 q i hq hi, rl_bgk _ _ _ _ _ (by decide)]
  · rw [fo_pa_s]; exact hf i hi
  · rw [fo_pa_n _ _ k8]; exact rl_bgk _ _ _ _ _ k5
end RLO
