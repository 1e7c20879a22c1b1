/-! the steps of feed, end, set, fill, card -/
section RLC
variable {n : Nat} {S S' : um_S} {T T' : fo_S}
theorem rl_blk.c {g : Nat → Int32} (h : rl_blk S g) (e : ∀ p b, p < 6 → b < 64 → S'.2 (rl_u p) (3 + b) = S.2 (rl_u p) (3 + b)) : rl_blk S' g := fun p b i hp hb hi => by rw [e p b hp hb]; exact h p b i hp hb hi
theorem rl_std.c {g : Nat → Int32} (h : rl_std S g) (e : ∀ p, p < 4 → S'.1 p 2 = S.1 p 2) : rl_std S' g := fun p hp => by rw [e p hp]; exact h p hp
theorem rl_fre.c {J : Nat → Int64} (h : rl_fre S J) (e : ∀ p, p < 10 → S'.1 (rl_u p) 4 = S.1 (rl_u p) 4) : rl_fre S' J := fun p hp => by rw [e p hp]; exact h p hp
theorem rl_com.c {g : Nat → Int32} (h : rl_com S g) (e : ∀ p, p < 10 → S'.1 (rl_u p) 0 = S.1 (rl_u p) 0) : rl_com S' g := fun p hp => by rw [e p hp]; exact h p hp
theorem rl_pnd.c (h : rl_pnd S T) (e : ∀ p k, p < 10 → (k = 0 ∨ k = 1 ∨ k = 5) → S'.1 (rl_u p) k = S.1 (rl_u p) k) (e2 : ∀ p, p < 10 → S'.2 (rl_u p) 1 = S.2 (rl_u p) 1) (t6 : T'.2.2 6 = T.2.2 6) (t7 : T'.2.2 7 = T.2.2 7) (t8 : T'.2.2 8 = T.2.2 8) : rl_pnd S' T' := fun p hp q => by
  rw [e p 0 hp (by decide)] at q
  rw [e p 1 hp (by decide), e p 5 hp (by decide), e2 p hp, t6, t7, t8]
  exact h p hp q
theorem rl_crd.c (h : rl_crd S T) (e2 : S'.1 16 2 = S.1 16 2) (e3 : S'.1 16 3 = S.1 16 3) (f : S'.2 16 2 = S.2 16 2) (t14 : T'.2.2 14 = T.2.2 14) (t9 : T'.2.2 9 = T.2.2 9) : rl_crd S' T' := fun c w hc hw => by
  rw [e3] at hc
  rw [e2, f, t14, t9]
  exact h c w hc hw
theorem rl_lin.c (h : rl_lin S T) (e : ∀ l, l < 3 → S'.1 (17 + l) 2 = S.1 (17 + l) 2) (t : T'.2.2 10 = T.2.2 10) : rl_lin S' T' := fun l hl => by rw [e l hl, t]; exact h l hl
theorem rl_let.c (h : rl_let S T) (e : ∀ l k, l < 3 → (k = 2 ∨ 6 ≤ k) → S'.1 (17 + l) k = S.1 (17 + l) k) (f : ∀ l k, l < 3 → S'.2 (17 + l) (3 + k) = S.2 (17 + l) (3 + k)) (t11 : T'.2.2 11 = T.2.2 11) (t12 : T'.2.2 12 = T.2.2 12) : rl_let S' T' := by
  refine ⟨fun l k hl hk => ?_, by rw [t11]; exact h.2⟩
  rw [e l 2 hl (Or.inl rfl)] at hk
  rw [e l (6 + k) hl (Or.inr (by omega)), f l k hl, t11, t12]
  exact h.1 l k hl hk
theorem rl_tap.c (h : rl_tap S T) (e : S'.1 20 1 = S.1 20 1) (f : S'.2 20 4 = S.2 20 4) (t : T'.2.2 13 = T.2.2 13) : rl_tap S' T' := fun k hk => by
  rw [e] at hk
  rw [f, t]
  exact h k hk
theorem rl_due {u : Nat} (e0 : S'.1 u 0 = S.1 u 0) (e4 : S'.1 u 4 = S.1 u 4) (e2 : S'.1 20 2 = S.1 20 2) : um_due S' u = um_due S u := by
  unfold um_due
  rw [e0, e4, e2]
theorem rl_n20 : ∀ p, p < 10 → rl_u p ≠ 20 := by decide
theorem rl_n16 : ∀ p, p < 10 → p ≠ 6 → rl_u p ≠ 16 := by decide
/-- a call that changes the tape or the memory alone -/
theorem RL.core (h : RL n S T) (hA : ∀ d k, ¬ (d = 20 ∧ k = 1) → S'.1 d k = S.1 d k) (hF : ∀ d k, d ≠ 20 → S'.2 d k = S.2 d k) (hsz : S'.1 20 1 ≤ 400) (hT1 : T'.1 = (T.1.1, T.1.2.1, T.1.2.2.1, nI (S'.1 20 1))) (hTJ : T'.2.1 = T.2.1) (hTA : ∀ k, k ≠ 1 → k ≠ 13 → T'.2.2 k = T.2.2 k) (hm : rl_mem (S'.2 20 2) (T'.2.2 1)) (ht : rl_tap S' T') : RL (n + 1) S' T' := by
  obtain ⟨⟨b1, b2, b3, b4, b5, b6⟩, h2, -, h4, h5, h6, h7, h8, h9, h10, h11, -, h13⟩ := h
  have hA2 : ∀ d k, k ≠ 1 → S'.1 d k = S.1 d k := fun d k hk => hA d k (fun z => hk z.2)
  have hA3 : ∀ d k, d ≠ 20 → S'.1 d k = S.1 d k := fun d k hd => hA d k (fun z => hd z.1)
  refine ⟨⟨fun d k => ?_, ?_, fun u => ?_, ?_, fun d => ?_, ?_⟩, ?_, hm, ?_, ?_, ?_, ?_, ?_, ?_, ?_, ?_, ht, ?_⟩
  · by_cases z : d = 20 ∧ k = 1
    · rw [z.1, z.2]; omega
    · rw [hA d k z]; exact b1 d k
  · obtain ⟨o1, o2, o3, o4, o5, o6⟩ := b2
    exact ⟨fun d hd => by rw [hA2 d 2 (by decide)]; exact o1 d hd, fun d hd => by rw [hA2 d 2 (by decide)]; exact o2 d hd, by rw [hA2 16 2 (by decide)]; exact o3, by rw [hA2 16 3 (by decide)]; exact o4, hsz, trivial⟩
  · rw [rl_due (hA2 u 0 (by decide)) (hA2 u 4 (by decide)) (hA2 20 2 (by decide))]; exact b3 u
  · rw [hA2 20 2 (by decide)]; omega
  · rw [hA2 d 4 (by decide)]; have := b5 d; omega
  · rw [hA2 20 0 (by decide)]; omega
  · unfold rl_num
    rw [hT1, hA2 20 2 (by decide), hA2 20 0 (by decide), hA2 16 3 (by decide), show T.1 = _ from h2]
  · rw [hTA 2 (by decide) (by decide)]; exact h4.c (fun p b hp _ => hF _ _ (rl_n20 p (by omega)))
  · rw [hTA 3 (by decide) (by decide)]; exact h5.c (fun p hp => hA2 _ _ (by decide))
  · rw [hTJ]; exact h6.c (fun p hp => hA2 _ _ (by decide))
  · rw [hTA 5 (by decide) (by decide)]; exact h7.c (fun p hp => hA2 _ _ (by decide))
  · exact h8.c (fun p k hp hk => hA3 _ _ (rl_n20 p hp)) (fun p hp => hF _ _ (rl_n20 p hp)) (hTA 6 (by decide) (by decide)) (hTA 7 (by decide) (by decide)) (hTA 8 (by decide) (by decide))
  · exact h9.c (hA2 _ _ (by decide)) (hA2 _ _ (by decide)) (hF _ _ (by decide)) (hTA 14 (by decide) (by decide)) (hTA 9 (by decide) (by decide))
  · exact h10.c (fun l hl => hA2 _ _ (by decide)) (hTA 10 (by decide) (by decide))
  · exact h11.c (fun l k hl hk => hA3 _ _ (by omega)) (fun l k hl => hF _ _ (by omega)) (hTA 11 (by decide) (by decide)) (hTA 12 (by decide) (by decide))
  · rw [hTA 14 (by decide) (by decide)]; exact h13
theorem RL.num (h : RL n S T) : T.1 = (lN (S.1 20 2), nI (S.1 20 0), nI (S.1 16 3), nI (S.1 20 1)) := h.2.1
theorem RL.up (h : RL n S T) : RL (n + 1) S T := RL.core h (fun _ _ _ => rfl) (fun _ _ _ => rfl) h.1.2.1.2.2.2.2.1 (by rw [h.num]) rfl (fun _ _ _ => rfl) h.2.2.1 h.2.2.2.2.2.2.2.2.2.2.2.1
/-! end -/
theorem RL.end (h : RL n S T) (x : Int32) : RL (n + 1) (um_endS S x) (fo_po T (T.1.1, T.1.2.1, T.1.2.2.1, fo_endn T.1.2.2.2 x)) := by
  have hsz := h.1.2.1.2.2.2.2.1
  obtain ⟨c1, c2⟩ := um_cut_e hsz x
  have ev : (um_endS S x).1 20 1 = um_cutN (S.1 20 1) x := um_sA_1 _ _ _ _
  refine RL.core h (fun d k z => um_sA_n S z) (fun _ _ _ => rfl) (by rw [ev]; omega) ?_ rfl (fun _ _ _ => rfl) h.2.2.1 (fun k hk => ?_)
  · show (T.1.1, T.1.2.1, T.1.2.2.1, fo_endn T.1.2.2.2 x) = _
    rw [ev, ← c1, (rl_cut _ _).2, h.num]
  · rw [ev] at hk
    exact h.2.2.2.2.2.2.2.2.2.2.2.1 k (by omega)
/-! set, fill -/
theorem RL.set (h : RL n S T) (a v z : Int32) : RL (n + 1) (um_setS S a v z) (fo_pa T 1 (fo_set (T.2.2 1) a v z)) := by
  refine RL.core h (fun d k z => rfl) (fun d k hd => um_sF_n S (fun q => hd q.1)) h.1.2.1.2.2.2.2.1 (by rw [h.num]; show (fo_pa T 1 _).1 = _; exact h.num) rfl (fun k h1 _ => fo_pa_n T _ h1) ?_ ?_
  · rw [show (um_setS S a v z).2 20 2 = um_set (S.2 20 2) a v z from um_sF_1 _ _ _ _, fo_pa_s]
    intro j hj
    unfold um_set fo_set
    rw [← rl_setok]
    by_cases c : um_setok a v = true
    · rw [if_pos c, if_pos c]
      unfold um_setok at c
      by_cases ch : um_holds a 1 = true
      · rw [if_pos ch] at c
        rw [um_put_t ch]
        obtain ⟨i, rfl, hi⟩ := um_holds_1 ch
        rw [nI_clamp (by omega)]
        by_cases e : j = i
        · subst e; rw [pk_us, pk_us, rl_set c]
        · rw [pk_un e, pk_un e]; exact h.2.2.1 j hj
      · rw [if_neg ch] at c; cases c
    · rw [if_neg c, if_neg c]; exact h.2.2.1 j hj
  · exact h.2.2.2.2.2.2.2.2.2.2.2.1.c rfl (um_sF_n S (by decide)) (fo_pa_n T _ (by decide))
theorem rl_fill {f g : Nat → Int32} (h : rl_mem f g) {x : Nat} (sd : Int32) : ∀ k, x + k ≤ 4000 → rl_mem (um_fillF f (nI x) sd k) (fo_filF g (nI x) sd k) := by
  intro k
  induction k with
  | zero => intro _; exact h
  | succ k ih =>
    intro hk j hj
    have q := ih (by omega)
    rw [um_fillF, fo_filF, um_put_t (by rw [nI_add, show (1 : Int32) = nI 1 from rfl, um_holds_iff (by omega) (by decide)]; exact decide_eq_true (by omega)), nI_add, nI_clamp (show x + k < 2 ^ 31 by omega)]
    by_cases e : j = x + k
    · subst e; rw [pk_us, pk_us, rl_told_and]
    · rw [pk_un e, pk_un e]; exact q j hj
theorem RL.fill (h : RL n S T) (a k sd : Int32) : RL (n + 1) (um_filS S a k sd) (fo_pa T 1 (fo_fil (T.2.2 1) a k sd)) := by
  refine RL.core h (fun d k z => rfl) (fun d k hd => um_sF_n S (fun q => hd q.1)) h.1.2.1.2.2.2.2.1 (by rw [h.num]; show (fo_pa T 1 _).1 = _; exact h.num) rfl (fun k h1 _ => fo_pa_n T _ h1) ?_ ?_
  · rw [show (um_filS S a k sd).2 20 2 = um_fill (S.2 20 2) a k sd from um_sF_1 _ _ _ _, fo_pa_s]
    unfold um_fill fo_fil
    rw [← rl_fillok]
    by_cases c : um_fillok a k = true
    · rw [if_pos c, if_pos c]
      unfold um_fillok at c
      by_cases c1 : k < 1
      · rw [if_pos c1] at c; cases c
      · rw [if_neg c1] at c
        by_cases c2 : 200 < k
        · rw [if_pos c2] at c; cases c
        · rw [if_neg c2] at c
          obtain ⟨j, hj, rfl⟩ := um_200 c1 c2
          obtain ⟨x, rfl, hx⟩ := um_holds_nat (by omega) c
          rw [nI_clamp (by omega)]
          exact rl_fill h.2.2.1 sd j hx
    · rw [if_neg c, if_neg c]; exact h.2.2.1
  · exact h.2.2.2.2.2.2.2.2.2.2.2.1.c rfl (um_sF_n S (by decide)) (fo_pa_n T _ (by decide))
/-! feed -/
theorem rl_i8 (x : Int32) : x.toInt8.toInt32 &&& 255 = x &&& 255 := by
  rw [pk_and _ 8 (by decide), pk_and _ 8 (by decide)]
  congr 1
  have e1 : x.toInt8.toInt32.toInt = x.toInt.bmod (2 ^ 8) := by rw [Int8.toInt_toInt32, Int32.toInt_toInt8]
  have e2 := rl_wN x
  have e3 := rl_wN x.toInt8.toInt32
  generalize x.toBitVec.toNat = X at *
  generalize x.toInt8.toInt32.toBitVec.toNat = Y at *
  generalize x.toInt = I at *
  generalize x.toInt8.toInt32.toInt = J at *
  unfold Int.bmod at e1
  simp only [show ((2 ^ 8 : Nat) : Int) = 256 from rfl] at e1
  split at e1 <;> omega
theorem rl_sb (v s : Int32) : um_sb v s &&& 255 = (v >>> (s &&& 31)) &&& 255 := by
  unfold um_sb
  rw [pk_vb, rl_i8]
def rl_fv (v1 v2 v3 v4 v5 : Int32) (k : Nat) : Int32 := (fo_pk v1 v2 v3 v4 v5 (nI k) >>> ((24 - 8 * (nI k - nI k / 4 * 4)) &&& 31)) &&& 255
theorem rl_fdF (g : Nat → Int32) (m : Nat) (v1 v2 v3 v4 v5 : Int32) : ∀ k j, fo_fdF g m v1 v2 v3 v4 v5 k j = if m ≤ j ∧ j < m + k then rl_fv v1 v2 v3 v4 v5 (j - m) else g j := by
  intro k
  induction k with
  | zero => intro j; rw [if_neg (by omega)]; rfl
  | succ k ih =>
    intro j
    rw [fo_fdF]
    by_cases e : j = m + k
    · subst e; rw [pk_us, if_pos (by omega), show m + k - m = k by omega]; rfl
    · rw [pk_un e, ih j]
      by_cases q : m ≤ j ∧ j < m + k
      · rw [if_pos q, if_pos (by omega)]
      · rw [if_neg q, if_neg (by omega)]
theorem rl_fv_0 (v1 v2 v3 v4 v5 : Int32) : rl_fv v1 v2 v3 v4 v5 0 = (v1 >>> ((24 : Int32) &&& 31)) &&& 255 := by
  unfold rl_fv fo_pk
  rw [if_neg (by decide), show (24 - 8 * (nI 0 - nI 0 / 4 * 4) : Int32) = 24 by decide]
theorem rl_fv_1 (v1 v2 v3 v4 v5 : Int32) : rl_fv v1 v2 v3 v4 v5 1 = (v1 >>> ((16 : Int32) &&& 31)) &&& 255 := by
  unfold rl_fv fo_pk
  rw [if_neg (by decide), show (24 - 8 * (nI 1 - nI 1 / 4 * 4) : Int32) = 16 by decide]
theorem rl_fv_2 (v1 v2 v3 v4 v5 : Int32) : rl_fv v1 v2 v3 v4 v5 2 = (v1 >>> ((8 : Int32) &&& 31)) &&& 255 := by
  unfold rl_fv fo_pk
  rw [if_neg (by decide), show (24 - 8 * (nI 2 - nI 2 / 4 * 4) : Int32) = 8 by decide]
theorem rl_fv_3 (v1 v2 v3 v4 v5 : Int32) : rl_fv v1 v2 v3 v4 v5 3 = (v1 >>> ((0 : Int32) &&& 31)) &&& 255 := by
  unfold rl_fv fo_pk
  rw [if_neg (by decide), show (24 - 8 * (nI 3 - nI 3 / 4 * 4) : Int32) = 0 by decide]
theorem rl_fv_4 (v1 v2 v3 v4 v5 : Int32) : rl_fv v1 v2 v3 v4 v5 4 = (v2 >>> ((24 : Int32) &&& 31)) &&& 255 := by
  unfold rl_fv fo_pk
  rw [if_pos (by decide), if_neg (by decide), show (24 - 8 * (nI 4 - nI 4 / 4 * 4) : Int32) = 24 by decide]
theorem rl_fv_5 (v1 v2 v3 v4 v5 : Int32) : rl_fv v1 v2 v3 v4 v5 5 = (v2 >>> ((16 : Int32) &&& 31)) &&& 255 := by
  unfold rl_fv fo_pk
  rw [if_pos (by decide), if_neg (by decide), show (24 - 8 * (nI 5 - nI 5 / 4 * 4) : Int32) = 16 by decide]
theorem rl_fv_6 (v1 v2 v3 v4 v5 : Int32) : rl_fv v1 v2 v3 v4 v5 6 = (v2 >>> ((8 : Int32) &&& 31)) &&& 255 := by
  unfold rl_fv fo_pk
  rw [if_pos (by decide), if_neg (by decide), show (24 - 8 * (nI 6 - nI 6 / 4 * 4) : Int32) = 8 by decide]
theorem rl_fv_7 (v1 v2 v3 v4 v5 : Int32) : rl_fv v1 v2 v3 v4 v5 7 = (v2 >>> ((0 : Int32) &&& 31)) &&& 255 := by
  unfold rl_fv fo_pk
  rw [if_pos (by decide), if_neg (by decide), show (24 - 8 * (nI 7 - nI 7 / 4 * 4) : Int32) = 0 by decide]
theorem rl_fv_8 (v1 v2 v3 v4 v5 : Int32) : rl_fv v1 v2 v3 v4 v5 8 = (v3 >>> ((24 : Int32) &&& 31)) &&& 255 := by
  unfold rl_fv fo_pk
  rw [if_pos (by decide), if_pos (by decide), if_neg (by decide), show (24 - 8 * (nI 8 - nI 8 / 4 * 4) : Int32) = 24 by decide]
theorem rl_fv_9 (v1 v2 v3 v4 v5 : Int32) : rl_fv v1 v2 v3 v4 v5 9 = (v3 >>> ((16 : Int32) &&& 31)) &&& 255 := by
  unfold rl_fv fo_pk
  rw [if_pos (by decide), if_pos (by decide), if_neg (by decide), show (24 - 8 * (nI 9 - nI 9 / 4 * 4) : Int32) = 16 by decide]
theorem rl_fv_10 (v1 v2 v3 v4 v5 : Int32) : rl_fv v1 v2 v3 v4 v5 10 = (v3 >>> ((8 : Int32) &&& 31)) &&& 255 := by
  unfold rl_fv fo_pk
  rw [if_pos (by decide), if_pos (by decide), if_neg (by decide), show (24 - 8 * (nI 10 - nI 10 / 4 * 4) : Int32) = 8 by decide]
theorem rl_fv_11 (v1 v2 v3 v4 v5 : Int32) : rl_fv v1 v2 v3 v4 v5 11 = (v3 >>> ((0 : Int32) &&& 31)) &&& 255 := by
  unfold rl_fv fo_pk
  rw [if_pos (by decide), if_pos (by decide), if_neg (by decide), show (24 - 8 * (nI 11 - nI 11 / 4 * 4) : Int32) = 0 by decide]
theorem rl_fv_12 (v1 v2 v3 v4 v5 : Int32) : rl_fv v1 v2 v3 v4 v5 12 = (v4 >>> ((24 : Int32) &&& 31)) &&& 255 := by
  unfold rl_fv fo_pk
  rw [if_pos (by decide), if_pos (by decide), if_pos (by decide), if_neg (by decide), show (24 - 8 * (nI 12 - nI 12 / 4 * 4) : Int32) = 24 by decide]
theorem rl_fv_13 (v1 v2 v3 v4 v5 : Int32) : rl_fv v1 v2 v3 v4 v5 13 = (v4 >>> ((16 : Int32) &&& 31)) &&& 255 := by
  unfold rl_fv fo_pk
  rw [if_pos (by decide), if_pos (by decide), if_pos (by decide), if_neg (by decide), show (24 - 8 * (nI 13 - nI 13 / 4 * 4) : Int32) = 16 by decide]
theorem rl_fv_14 (v1 v2 v3 v4 v5 : Int32) : rl_fv v1 v2 v3 v4 v5 14 = (v4 >>> ((8 : Int32) &&& 31)) &&& 255 := by
  unfold rl_fv fo_pk
  rw [if_pos (by decide), if_pos (by decide), if_pos (by decide), if_neg (by decide), show (24 - 8 * (nI 14 - nI 14 / 4 * 4) : Int32) = 8 by decide]
theorem rl_fv_15 (v1 v2 v3 v4 v5 : Int32) : rl_fv v1 v2 v3 v4 v5 15 = (v4 >>> ((0 : Int32) &&& 31)) &&& 255 := by
  unfold rl_fv fo_pk
  rw [if_pos (by decide), if_pos (by decide), if_pos (by decide), if_neg (by decide), show (24 - 8 * (nI 15 - nI 15 / 4 * 4) : Int32) = 0 by decide]
theorem rl_fv_16 (v1 v2 v3 v4 v5 : Int32) : rl_fv v1 v2 v3 v4 v5 16 = (v5 >>> ((24 : Int32) &&& 31)) &&& 255 := by
  unfold rl_fv fo_pk
  rw [if_pos (by decide), if_pos (by decide), if_pos (by decide), if_pos (by decide), show (24 - 8 * (nI 16 - nI 16 / 4 * 4) : Int32) = 24 by decide]
theorem rl_fv_17 (v1 v2 v3 v4 v5 : Int32) : rl_fv v1 v2 v3 v4 v5 17 = (v5 >>> ((16 : Int32) &&& 31)) &&& 255 := by
  unfold rl_fv fo_pk
  rw [if_pos (by decide), if_pos (by decide), if_pos (by decide), if_pos (by decide), show (24 - 8 * (nI 17 - nI 17 / 4 * 4) : Int32) = 16 by decide]
theorem rl_fv_18 (v1 v2 v3 v4 v5 : Int32) : rl_fv v1 v2 v3 v4 v5 18 = (v5 >>> ((8 : Int32) &&& 31)) &&& 255 := by
  unfold rl_fv fo_pk
  rw [if_pos (by decide), if_pos (by decide), if_pos (by decide), if_pos (by decide), show (24 - 8 * (nI 18 - nI 18 / 4 * 4) : Int32) = 8 by decide]
theorem rl_fv_19 (v1 v2 v3 v4 v5 : Int32) : rl_fv v1 v2 v3 v4 v5 19 = (v5 >>> ((0 : Int32) &&& 31)) &&& 255 := by
  unfold rl_fv fo_pk
  rw [if_pos (by decide), if_pos (by decide), if_pos (by decide), if_pos (by decide), show (24 - 8 * (nI 19 - nI 19 / 4 * 4) : Int32) = 0 by decide]
theorem rl_app_out {b : Nat → Int32} {m j : Nat} (v : Int32) (h : j < m ∨ m + 4 ≤ j) : um_app b m v j = b j := by
  unfold um_app
  rw [pk_un (by omega), pk_un (by omega), pk_un (by omega), pk_un (by omega)]
theorem rl_app_0 (b : Nat → Int32) (m : Nat) (v : Int32) : um_app b m v m = um_sb v 24 := by
  unfold um_app
  rw [pk_un (by omega), pk_un (by omega), pk_un (by omega), pk_us]
theorem rl_app_1 (b : Nat → Int32) (m : Nat) (v : Int32) : um_app b m v (m + 1) = um_sb v 16 := by
  unfold um_app
  rw [pk_un (by omega), pk_un (by omega), pk_us]
theorem rl_app_2 (b : Nat → Int32) (m : Nat) (v : Int32) : um_app b m v (m + 1 + 1) = um_sb v 8 := by
  unfold um_app
  rw [pk_un (by omega), pk_us]
theorem rl_app_3 (b : Nat → Int32) (m : Nat) (v : Int32) : um_app b m v (m + 1 + 1 + 1) = um_sb v 0 := by
  unfold um_app
  rw [pk_us]
theorem rl_fd (b : Nat → Int32) (m : Nat) (v1 v2 v3 v4 v5 : Int32) : ∀ k, k < 20 → um_fd b m v1 v2 v3 v4 v5 (m + k) &&& 255 = rl_fv v1 v2 v3 v4 v5 k := by
  intro k hk
  unfold um_fd
  rcases (show k = 0 ∨ k = 1 ∨ k = 2 ∨ k = 3 ∨ k = 4 ∨ k = 5 ∨ k = 6 ∨ k = 7 ∨ k = 8 ∨ k = 9 ∨ k = 10 ∨ k = 11 ∨ k = 12 ∨ k = 13 ∨ k = 14 ∨ k = 15 ∨ k = 16 ∨ k = 17 ∨ k = 18 ∨ k = 19 by omega) with rfl | rfl | rfl | rfl | rfl | rfl | rfl | rfl | rfl | rfl | rfl | rfl | rfl | rfl | rfl | rfl | rfl | rfl | rfl | rfl
  · rw [show m + 0 = m from rfl, rl_app_out _ (by omega), rl_app_out _ (by omega), rl_app_out _ (by omega), rl_app_out _ (by omega), rl_app_0, rl_sb, rl_fv_0]
  · rw [show m + 1 = m + 1 from rfl, rl_app_out _ (by omega), rl_app_out _ (by omega), rl_app_out _ (by omega), rl_app_out _ (by omega), rl_app_1, rl_sb, rl_fv_1]
  · rw [show m + 2 = m + 1 + 1 from rfl, rl_app_out _ (by omega), rl_app_out _ (by omega), rl_app_out _ (by omega), rl_app_out _ (by omega), rl_app_2, rl_sb, rl_fv_2]
  · rw [show m + 3 = m + 1 + 1 + 1 from rfl, rl_app_out _ (by omega), rl_app_out _ (by omega), rl_app_out _ (by omega), rl_app_out _ (by omega), rl_app_3, rl_sb, rl_fv_3]
  · rw [show m + 4 = m + 1 + 1 + 1 + 1 from rfl, rl_app_out _ (by omega), rl_app_out _ (by omega), rl_app_out _ (by omega), rl_app_0, rl_sb, rl_fv_4]
  · rw [show m + 5 = m + 1 + 1 + 1 + 1 + 1 from rfl, rl_app_out _ (by omega), rl_app_out _ (by omega), rl_app_out _ (by omega), rl_app_1, rl_sb, rl_fv_5]
  · rw [show m + 6 = m + 1 + 1 + 1 + 1 + 1 + 1 from rfl, rl_app_out _ (by omega), rl_app_out _ (by omega), rl_app_out _ (by omega), rl_app_2, rl_sb, rl_fv_6]
  · rw [show m + 7 = m + 1 + 1 + 1 + 1 + 1 + 1 + 1 from rfl, rl_app_out _ (by omega), rl_app_out _ (by omega), rl_app_out _ (by omega), rl_app_3, rl_sb, rl_fv_7]
  · rw [show m + 8 = m + 1 + 1 + 1 + 1 + 1 + 1 + 1 + 1 from rfl, rl_app_out _ (by omega), rl_app_out _ (by omega), rl_app_0, rl_sb, rl_fv_8]
  · rw [show m + 9 = m + 1 + 1 + 1 + 1 + 1 + 1 + 1 + 1 + 1 from rfl, rl_app_out _ (by omega), rl_app_out _ (by omega), rl_app_1, rl_sb, rl_fv_9]
  · rw [show m + 10 = m + 1 + 1 + 1 + 1 + 1 + 1 + 1 + 1 + 1 + 1 from rfl, rl_app_out _ (by omega), rl_app_out _ (by omega), rl_app_2, rl_sb, rl_fv_10]
  · rw [show m + 11 = m + 1 + 1 + 1 + 1 + 1 + 1 + 1 + 1 + 1 + 1 + 1 from rfl, rl_app_out _ (by omega), rl_app_out _ (by omega), rl_app_3, rl_sb, rl_fv_11]
  · rw [show m + 12 = m + 1 + 1 + 1 + 1 + 1 + 1 + 1 + 1 + 1 + 1 + 1 + 1 from rfl, rl_app_out _ (by omega), rl_app_0, rl_sb, rl_fv_12]
  · rw [show m + 13 = m + 1 + 1 + 1 + 1 + 1 + 1 + 1 + 1 + 1 + 1 + 1 + 1 + 1 from rfl, rl_app_out _ (by omega), rl_app_1, rl_sb, rl_fv_13]
  · rw [show m + 14 = m + 1 + 1 + 1 + 1 + 1 + 1 + 1 + 1 + 1 + 1 + 1 + 1 + 1 + 1 from rfl, rl_app_out _ (by omega), rl_app_2, rl_sb, rl_fv_14]
  · rw [show m + 15 = m + 1 + 1 + 1 + 1 + 1 + 1 + 1 + 1 + 1 + 1 + 1 + 1 + 1 + 1 + 1 from rfl, rl_app_out _ (by omega), rl_app_3, rl_sb, rl_fv_15]
  · rw [show m + 16 = m + 1 + 1 + 1 + 1 + 1 + 1 + 1 + 1 + 1 + 1 + 1 + 1 + 1 + 1 + 1 + 1 from rfl, rl_app_0, rl_sb, rl_fv_16]
  · rw [show m + 17 = m + 1 + 1 + 1 + 1 + 1 + 1 + 1 + 1 + 1 + 1 + 1 + 1 + 1 + 1 + 1 + 1 + 1 from rfl, rl_app_1, rl_sb, rl_fv_17]
  · rw [show m + 18 = m + 1 + 1 + 1 + 1 + 1 + 1 + 1 + 1 + 1 + 1 + 1 + 1 + 1 + 1 + 1 + 1 + 1 + 1 from rfl, rl_app_2, rl_sb, rl_fv_18]
  · rw [show m + 19 = m + 1 + 1 + 1 + 1 + 1 + 1 + 1 + 1 + 1 + 1 + 1 + 1 + 1 + 1 + 1 + 1 + 1 + 1 + 1 from rfl, rl_app_3, rl_sb, rl_fv_19]
theorem rl_fd_lo {b : Nat → Int32} {m j : Nat} (v1 v2 v3 v4 v5 : Int32) (h : j < m) : um_fd b m v1 v2 v3 v4 v5 j = b j := by
  unfold um_fd
  rw [rl_app_out _ (by omega), rl_app_out _ (by omega), rl_app_out _ (by omega), rl_app_out _ (by omega), rl_app_out _ (by omega)]
theorem rl_room {m : Nat} (h : m ≤ 400) : um_room (nI m) = decide (m ≤ 380) := by
  unfold um_room
  by_cases q : m ≤ 380
  · rw [decide_eq_true q, if_neg (show ¬ (400 - 20 : Int32) < nI m from nI_nlt (a := 380) q (by decide))]
  · rw [decide_eq_false q, if_pos (show (400 - 20 : Int32) < nI m from nI_lt (a := 380) (by omega) (by omega))]
theorem RL.feed (h : RL n S T) (hn : S.1 20 1 ≤ 380) (v1 v2 v3 v4 v5 : Int32) : RL (n + 1) (um_fdS S v1 v2 v3 v4 v5) (fo_po (fo_pa T 13 (fo_fdF (T.2.2 13) (S.1 20 1) v1 v2 v3 v4 v5 20)) (T.1.1, T.1.2.1, T.1.2.2.1, nI (S.1 20 1 + 20))) := by
  have hr : um_room (nI (S.1 20 1)) = true := by rw [rl_room (by omega)]; exact decide_eq_true hn
  have ev : (um_fdS S v1 v2 v3 v4 v5).1 20 1 = S.1 20 1 + 20 := (um_sA_1 _ _ _ _).trans (if_pos hr)
  have ef : (um_fdS S v1 v2 v3 v4 v5).2 20 4 = um_fd (S.2 20 4) (S.1 20 1) v1 v2 v3 v4 v5 := by
    show (um_sF S 20 4 (um_fdb (S.2 20 4) (S.1 20 1) v1 v2 v3 v4 v5)).2 20 4 = _
    rw [um_sF_1]; exact if_pos hr
  refine RL.core h (fun d k z => um_sA_n _ z) (fun d k hd => um_sF_n S (fun q => hd q.1)) (by rw [ev]; omega) (by rw [ev]; rfl) rfl (fun k h1 h13 => fo_pa_n T _ h13) ?_ (fun k hk => ?_)
  · rw [show (um_fdS S v1 v2 v3 v4 v5).2 20 2 = S.2 20 2 from um_sF_n (d := 20) (j := 4) (x := 20) (y := 2) (f := um_fdb (S.2 20 4) (S.1 20 1) v1 v2 v3 v4 v5) S (by decide)]
    exact h.2.2.1
  · rw [ev] at hk
    rw [ef]
    show _ = (fo_pa T 13 _).2.2 13 k
    rw [fo_pa_s, rl_fdF]
    by_cases q : k < S.1 20 1
    · rw [if_neg (by omega), rl_fd_lo _ _ _ _ _ q]
      exact h.2.2.2.2.2.2.2.2.2.2.2.1 k q
    · obtain ⟨i, hi, rfl⟩ : ∃ i, i < 20 ∧ k = S.1 20 1 + i := ⟨k - S.1 20 1, by omega, by omega⟩
      rw [if_pos (by omega), rl_fd _ _ _ _ _ _ _ i hi, show S.1 20 1 + i - S.1 20 1 = i by omega]
theorem RL.feedF (h : RL n S T) (hn : ¬ S.1 20 1 ≤ 380) (v1 v2 v3 v4 v5 : Int32) : RL (n + 1) (um_fdS S v1 v2 v3 v4 v5) T := by
  have hsz := h.1.2.1.2.2.2.2.1
  have hr : ¬ um_room (nI (S.1 20 1)) = true := by rw [rl_room (by omega), decide_eq_false hn]; decide
  have ev : (um_fdS S v1 v2 v3 v4 v5).1 20 1 = S.1 20 1 := (um_sA_1 _ _ _ _).trans (if_neg hr)
  have ef : (um_fdS S v1 v2 v3 v4 v5).2 20 4 = S.2 20 4 := by
    show (um_sF S 20 4 (um_fdb (S.2 20 4) (S.1 20 1) v1 v2 v3 v4 v5)).2 20 4 = _
    rw [um_sF_1]; exact if_neg hr
  refine RL.core h (fun d k z => um_sA_n _ z) (fun d k hd => um_sF_n S (fun q => hd q.1)) (by rw [ev]; omega) (by rw [ev, h.num]) rfl (fun k _ _ => rfl) ?_ (fun k hk => ?_)
  · rw [show (um_fdS S v1 v2 v3 v4 v5).2 20 2 = S.2 20 2 from um_sF_n (d := 20) (j := 4) (x := 20) (y := 2) (f := um_fdb (S.2 20 4) (S.1 20 1) v1 v2 v3 v4 v5) S (by decide)]
    exact h.2.2.1
  · rw [ev] at hk
    rw [ef]
    exact h.2.2.2.2.2.2.2.2.2.2.2.1 k hk
/-! card -/
theorem rl_cAt {bs tp : Nat → Int32} {m : Nat} (hm : m ≤ 400) (ht : ∀ k, k < m → bs k &&& 255 = tp k) {k : Nat} (hk : k < 2 ^ 31) : um_cAt bs m (nI k) = fo_cd (fo_alp 56) (fo_gr (if k < m then tp k else 32)) 56 := by
  unfold um_cAt
  rw [if_neg (nI_pos hk)]
  by_cases q : k < m
  · rw [if_pos q, if_pos (nI_lt q (by omega)), nI_clamp hk, rl_code, ht k q]
  · rw [if_neg q, if_neg (nI_nlt (by omega) hk)]
    decide +kernel
theorem rl_wAt {bs cb : Nat → Int32} {m : Nat} (w r : Nat) (hw : w < 16) (hc : ∀ k, k < 80 → um_cAt bs m (nI k) = fo_cd (fo_alp 56) (fo_gr (cb (r + k))) 56) : um_wAt bs m (nI w * 5) = fo_cw (fo_alp 56) cb (r + 5 * w) := by
  unfold um_wAt fo_cw
  rw [show (5 : Int32) = nI 5 from rfl, pk_mul, show (0 : Int32) = nI 0 from rfl, show (1 : Int32) = nI 1 from rfl, show (2 : Int32) = nI 2 from rfl, show (3 : Int32) = nI 3 from rfl, show (4 : Int32) = nI 4 from rfl, nI_add, nI_add, nI_add, nI_add, nI_add, hc _ (by omega), hc _ (by omega), hc _ (by omega), hc _ (by omega), hc _ (by omega)]
  rw [show r + (w * 5 + 0) = r + 5 * w by omega, show r + (w * 5 + 1) = r + 5 * w + 1 by omega, show r + (w * 5 + 2) = r + 5 * w + 2 by omega, show r + (w * 5 + 3) = r + 5 * w + 3 by omega, show r + (w * 5 + 4) = r + 5 * w + 4 by omega]
  obtain ⟨c0, h0, e0⟩ := rl_cdN (fo_alp 56) (fo_gr (cb (r + 5 * w))) 56 (by decide)
  obtain ⟨c1, h1, e1⟩ := rl_cdN (fo_alp 56) (fo_gr (cb (r + 5 * w + 1))) 56 (by decide)
  obtain ⟨c2, h2, e2⟩ := rl_cdN (fo_alp 56) (fo_gr (cb (r + 5 * w + 2))) 56 (by decide)
  obtain ⟨c3, h3, e3⟩ := rl_cdN (fo_alp 56) (fo_gr (cb (r + 5 * w + 3))) 56 (by decide)
  obtain ⟨c4, h4, e4⟩ := rl_cdN (fo_alp 56) (fo_gr (cb (r + 5 * w + 4))) 56 (by decide)
  rw [e0, e1, e2, e3, e4]
  exact (rl_five h0 h1 h2 h3 h4).1
theorem rl_cwN (cb : Nat → Int32) (r : Nat) : ∃ z : Nat, z < 2 ^ 30 ∧ fo_cw (fo_alp 56) cb r = nI z := by
  unfold fo_cw
  obtain ⟨c0, h0, e0⟩ := rl_cdN (fo_alp 56) (fo_gr (cb r)) 56 (by decide)
  obtain ⟨c1, h1, e1⟩ := rl_cdN (fo_alp 56) (fo_gr (cb (r + 1))) 56 (by decide)
  obtain ⟨c2, h2, e2⟩ := rl_cdN (fo_alp 56) (fo_gr (cb (r + 2))) 56 (by decide)
  obtain ⟨c3, h3, e3⟩ := rl_cdN (fo_alp 56) (fo_gr (cb (r + 3))) 56 (by decide)
  obtain ⟨c4, h4, e4⟩ := rl_cdN (fo_alp 56) (fo_gr (cb (r + 4))) 56 (by decide)
  rw [e0, e1, e2, e3, e4]
  exact (rl_five h0 h1 h2 h3 h4).2
theorem rl_cw_eq {al cb cb' : Nat → Int32} {r r' : Nat} (h : ∀ i, i < 5 → cb' (r' + i) = cb (r + i)) : fo_cw al cb' r' = fo_cw al cb r := by
  unfold fo_cw
  rw [show cb' r' = cb r from h 0 (by decide), h 1 (by decide), h 2 (by decide), h 3 (by decide), h 4 (by decide)]
/-- the card behind the others; the tape isn't cut yet -/
theorem RL.cardK (h : RL n S T) (hc : S.1 16 3 < 100) : RL n (um_sA (um_sF S 16 2 (um_acc (S.2 16 2) (S.2 20 4) (S.1 20 1) ((S.1 16 2 + S.1 16 3) % 100 * 16) 16)) 16 3 (S.1 16 3 + 1)) (fo_po (fo_pa T 9 (fo_cb (T.2.2 9) (T.2.2 13) (S.1 20 1) (80 * S.1 16 3) 80)) (T.1.1, T.1.2.1, nI (S.1 16 3 + 1), T.1.2.2.2)) := by
  obtain ⟨⟨b1, b2, b3, b4, b5, b6⟩, h2, h3, h4, h5, h6, h7, h8, h9, h10, h11, h12, h13⟩ := h
  obtain ⟨o1, o2, o3, o4, o5, o6⟩ := b2
  have A : ∀ d k, ¬ (d = 16 ∧ k = 3) → (um_sA (um_sF S 16 2 (um_acc (S.2 16 2) (S.2 20 4) (S.1 20 1) ((S.1 16 2 + S.1 16 3) % 100 * 16) 16)) 16 3 (S.1 16 3 + 1)).1 d k = S.1 d k := fun d k z => um_sA_n _ z
  have A3 : (um_sA (um_sF S 16 2 (um_acc (S.2 16 2) (S.2 20 4) (S.1 20 1) ((S.1 16 2 + S.1 16 3) % 100 * 16) 16)) 16 3 (S.1 16 3 + 1)).1 16 3 = S.1 16 3 + 1 := um_sA_1 _ _ _ _
  have F : ∀ d k, ¬ (d = 16 ∧ k = 2) → (um_sA (um_sF S 16 2 (um_acc (S.2 16 2) (S.2 20 4) (S.1 20 1) ((S.1 16 2 + S.1 16 3) % 100 * 16) 16)) 16 3 (S.1 16 3 + 1)).2 d k = S.2 d k := fun d k z => um_sF_n S z
  have F2 : (um_sA (um_sF S 16 2 (um_acc (S.2 16 2) (S.2 20 4) (S.1 20 1) ((S.1 16 2 + S.1 16 3) % 100 * 16) 16)) 16 3 (S.1 16 3 + 1)).2 16 2 = um_acc (S.2 16 2) (S.2 20 4) (S.1 20 1) ((S.1 16 2 + S.1 16 3) % 100 * 16) 16 := um_sF_1 S 16 2 (um_acc (S.2 16 2) (S.2 20 4) (S.1 20 1) ((S.1 16 2 + S.1 16 3) % 100 * 16) 16)
  generalize um_sA (um_sF S 16 2 (um_acc (S.2 16 2) (S.2 20 4) (S.1 20 1) ((S.1 16 2 + S.1 16 3) % 100 * 16) 16)) 16 3 (S.1 16 3 + 1) = S' at *
  have TA : ∀ k, k ≠ 9 → (fo_po (fo_pa T 9 (fo_cb (T.2.2 9) (T.2.2 13) (S.1 20 1) (80 * S.1 16 3) 80)) (T.1.1, T.1.2.1, nI (S.1 16 3 + 1), T.1.2.2.2)).2.2 k = T.2.2 k := fun k z => fo_pa_n T _ z
  have T9 : (fo_po (fo_pa T 9 (fo_cb (T.2.2 9) (T.2.2 13) (S.1 20 1) (80 * S.1 16 3) 80)) (T.1.1, T.1.2.1, nI (S.1 16 3 + 1), T.1.2.2.2)).2.2 9 = fo_cb (T.2.2 9) (T.2.2 13) (S.1 20 1) (80 * S.1 16 3) 80 := fo_pa_s T _ _
  refine ⟨⟨fun d k => ?_, ⟨fun d hd => ?_, fun d hd => ?_, ?_, ?_, ?_, trivial⟩, fun u => ?_, ?_, fun d => ?_, ?_⟩, ?_, ?_, ?_, ?_, ?_, ?_, ?_, ?_, ?_, ?_, ?_, ?_⟩
  · by_cases z : d = 16 ∧ k = 3
    · rw [z.1, z.2, A3]; omega
    · rw [A d k z]; exact b1 d k
  · rw [A d 2 (by omega)]; exact o1 d hd
  · rw [A d 2 (by omega)]; exact o2 d hd
  · rw [A 16 2 (by omega)]; exact o3
  · rw [A3]; omega
  · rw [A 20 1 (by omega)]; exact o5
  · rw [rl_due (A u 0 (by omega)) (A u 4 (by omega)) (A 20 2 (by omega))]; exact b3 u
  · rw [A 20 2 (by omega)]; exact b4
  · rw [A d 4 (by omega)]; exact b5 d
  · rw [A 20 0 (by omega)]; exact b6
  · unfold rl_num
    rw [A 20 2 (by omega), A 20 0 (by omega), A3, A 20 1 (by omega)]
    show (T.1.1, T.1.2.1, nI (S.1 16 3 + 1), T.1.2.2.2) = _
    rw [show T.1 = _ from h2]
  · rw [F 20 2 (by omega), TA 1 (by decide)]; exact h3
  · rw [TA 2 (by decide)]; exact h4.c (fun p b hp _ => F _ _ (by omega))
  · rw [TA 3 (by decide)]; exact h5.c (fun p hp => A _ _ (by omega))
  · exact h6.c (fun p hp => A _ _ (by omega))
  · rw [TA 5 (by decide)]; exact h7.c (fun p hp => A _ _ (by omega))
  · exact h8.c (fun p k hp hk => A _ _ (by omega)) (fun p hp => F _ _ (by omega)) (TA 6 (by decide)) (TA 7 (by decide)) (TA 8 (by decide))
  · intro c w hc' hw
    rw [A3] at hc'
    rw [A 16 2 (by omega), F2, TA 14 (by decide), T9, h13]
    by_cases e : c = S.1 16 3
    · subst e
      have : (S.1 16 2 + S.1 16 3) % 100 * 16 + w - (S.1 16 2 + S.1 16 3) % 100 * 16 = w := by omega
      rw [show um_acc (S.2 16 2) (S.2 20 4) (S.1 20 1) ((S.1 16 2 + S.1 16 3) % 100 * 16) 16 ((S.1 16 2 + S.1 16 3) % 100 * 16 + w) = um_wAt (S.2 20 4) (S.1 20 1) (nI w * 5) from (by unfold um_acc; rw [if_pos ⟨Nat.le_add_right _ _, by omega⟩, this])]
      refine rl_wAt w _ hw (fun k hk => ?_)
      rw [rl_cAt o5 h12 (by omega)]
      unfold fo_cb
      rw [if_pos (show 80 * S.1 16 3 ≤ 80 * S.1 16 3 + k ∧ 80 * S.1 16 3 + k < 80 * S.1 16 3 + 80 by omega), show 80 * S.1 16 3 + k - 80 * S.1 16 3 = k by omega]
    · have hlt : c < S.1 16 3 := by omega
      have hne : (S.1 16 2 + c) % 100 ≠ (S.1 16 2 + S.1 16 3) % 100 := by omega
      rw [show um_acc (S.2 16 2) (S.2 20 4) (S.1 20 1) ((S.1 16 2 + S.1 16 3) % 100 * 16) 16 ((S.1 16 2 + c) % 100 * 16 + w) = S.2 16 2 ((S.1 16 2 + c) % 100 * 16 + w) from (by unfold um_acc; rw [if_neg (by omega)]), h9 c w hlt hw, h13]
      refine (rl_cw_eq (fun i hi => ?_)).symm
      unfold fo_cb
      rw [if_neg (by omega)]
  · exact h10.c (fun l hl => A _ _ (by omega)) (TA 10 (by decide))
  · exact h11.c (fun l k hl hk => A _ _ (by omega)) (fun l k hl => F _ _ (by omega)) (TA 11 (by decide)) (TA 12 (by decide))
  · exact h12.c (A 20 1 (by omega)) (F 20 4 (by omega)) (TA 13 (by decide))
  · rw [TA 14 (by decide)]; exact h13
theorem rl_end0 (k : Nat) (hk : k ≤ 400) : fo_endn (nI k) 0 = 0 := by
  unfold fo_endn
  rw [show fo_in 0 0 (nI k) = true from (rl_in (j := 0) rfl (by decide) (by omega)).trans (decide_eq_true (Nat.zero_le _)), if_pos rfl]
theorem RL.card (h : RL n S T) (hc : S.1 16 3 < 100) : RL (n + 1) (um_crdS S) (fo_po (fo_pa T 9 (fo_cb (T.2.2 9) (T.2.2 13) (S.1 20 1) (80 * S.1 16 3) 80)) (T.1.1, T.1.2.1, nI (S.1 16 3 + 1), 0)) := by
  unfold um_crdS
  rw [if_pos hc]
  have q := (h.cardK hc).end 0
  have e : fo_endn T.1.2.2.2 0 = 0 := by rw [h.num]; exact rl_end0 _ h.1.2.1.2.2.2.2.1
  have q2 : RL (n + 1) _ (fo_po (fo_pa T 9 (fo_cb (T.2.2 9) (T.2.2 13) (S.1 20 1) (80 * S.1 16 3) 80)) (T.1.1, T.1.2.1, nI (S.1 16 3 + 1), fo_endn T.1.2.2.2 0)) := q
  rw [e] at q2
  exact q2
theorem RL.cardF (h : RL n S T) (hc : ¬ S.1 16 3 < 100) : RL (n + 1) (um_crdS S) (fo_po T (T.1.1, T.1.2.1, T.1.2.2.1, 0)) := by
  unfold um_crdS
  rw [if_neg hc]
  have q := h.end 0
  rw [show fo_endn T.1.2.2.2 0 = 0 by rw [h.num]; exact rl_end0 _ h.1.2.1.2.2.2.2.1] at q
  exact q
end RLC
