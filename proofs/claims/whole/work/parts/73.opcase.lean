/-! operate: the cases -/
theorem rl_wl3 : ∀ l, l < 3 → rl_u (7 + l) = 17 + l ∧ um_kind (17 + l) = 3 ∧ um_words (17 + l) = fo_W l ∧ fo_W l ≤ 24 := by decide
section RLP
variable {n : Nat} {S : um_S} {T : fo_S}
theorem rl_cin0 {R : Nat → Nat → Int32} {o : Nat → Int32} {b i : Nat} (hb : b < 64) (hi : i < 100) : um_bring R (nI b) o 100 i = R b i := by
  unfold um_bring um_wordAt
  rw [if_pos hi, if_neg (nI_pos (by omega)), if_neg (show ¬ (64 : Int32) ≤ nI b from nI_ge (b := 64) hb (by decide)), if_neg (nI_pos (by omega)), if_pos (show nI i < 100 from nI_lt (b := 100) hi (by decide)), nI_clamp (by omega), nI_clamp (by omega)]
theorem rl_cpOut {dst src : Nat → Int32} {p s q i : Nat} (hq : q ≠ p) (hi : i < 100) : fo_cp dst src (100 * p) s 100 (100 * q + i) = dst (100 * q + i) := by
  unfold fo_cp
  rw [if_neg (by omega)]
theorem rl_cpIn {dst src : Nat → Int32} {p s i : Nat} (hi : i < 100) : fo_cp dst src (100 * p) s 100 (100 * p + i) = src (s + i) := by
  unfold fo_cp
  rw [if_pos (by omega), show 100 * p + i - 100 * p = i by omega]
/-- an operation without fault -/
theorem RL.op (h : RL n S T) (hn : n ≤ 600) {p : Nat} (hp : p < 10) {op m x : Int32} (hf : um_flt S (rl_u p) op m x = 0) : ∃ K, fo_case T p op m x K ∧ RL (n + 1) (um_wk (um_bgn S (rl_u p)) (rl_u p) op m x) (K (fo_bg (fo_gg T p) p op m)) := by
  obtain ⟨hop, hho, hdf⟩ := um_flt_0 hf
  obtain ⟨hG, hd⟩ := h.gg hn hp
  have b1 := h.1.2.2.2.1
  have b2 := h.1.2.2.2.2.1 (rl_u p)
  have b3 := h.1.2.2.2.2.2
  obtain ⟨hk4, -, -, -, -, -, t0, t1, t2, t3⟩ := rl_ut p hp
  have hfin := fun {T' : fo_S} (q : RLg (um_wk (um_bgn S (rl_u p)) (rl_u p) op m x) T') => h.fin hp (op := op) (m := m) (x := x) hd q
  have c0 : (um_goTo S (max (S.1 20 2) (S.1 (rl_u p) 4))).1 (rl_u p) 0 = 0 := by
    by_cases c : (um_goTo S (max (S.1 20 2) (S.1 (rl_u p) 4))).1 (rl_u p) 0 = 0
    · exact c
    · have q := hd (rl_u p)
      unfold um_due at q
      rw [decide_eq_true hk4, decide_eq_true (p := (um_goTo S (max (S.1 20 2) (S.1 (rl_u p) 4))).1 (rl_u p) 0 ≠ 0) c, decide_eq_true (by rw [rl_goTo_4, um_goTo_now]; omega)] at q
      cases q
  have hbeg : ∀ o : Int32, ¬ o = 1 → RLg (um_bgn S (rl_u p)) (fo_bg (fo_gg T p) p o m) := fun o ho => by
    have q := hG.begin hp c0 m ho (by rw [rl_goTo_0]; omega) (by rw [um_goTo_now]; omega)
    rw [rl_goTo_0, um_goTo_now] at q
    exact q
  have hB2 : (um_bgn S (rl_u p)).1 (rl_u p) 2 = S.1 (rl_u p) 2 := um_bgn_2 (rl_n20 p hp)
  have hB3 : (um_bgn S (rl_u p)).1 (rl_u p) 3 = S.1 (rl_u p) 3 := um_bgn_k (rl_n20 p hp) (by decide)
  have hB1 : (um_bgn S (rl_u p)).1 (rl_u p) 1 = S.1 20 0 + 1 := um_sA_1 _ _ _ _
  have hTg : (fo_gg T p).1.2.1 = nI (S.1 20 0) := by rw [(fo_gg_r T p).2.1, h.num]
  generalize hBS : um_bgn S (rl_u p) = BS at *
  generalize fo_gg T p = Tg at *
  rcases (show p < 4 ∨ (4 ≤ p ∧ p < 6) ∨ p = 6 ∨ 7 ≤ p by omega) with c | c | c | c
  · -- tapes
    obtain ⟨eu, ek⟩ := t0 c
    rw [eu] at hho hdf hB2 hB1 ⊢
    simp only [eu] at hfin
    have hpos := h.1.2.1.1 p ek
    have hst : T.2.2 3 p = nI (S.1 p 2) := h.2.2.2.2.1 p c
    have ew : um_words p = 100 := (um_kd p (um_k20' (by omega))).1 ek
    rcases hop with rfl | rfl | rfl
    · have q0 := hbeg 0 (by decide)
      have hs : (fo_bg Tg p 0 m).2.2 3 p = nI (BS.1 p 2) := q0.2.2.2.2.1 p c
      obtain ⟨e1, e2⟩ := um_pos_e (p := BS.1 p 2) (by rw [hB2]; exact hpos) m
      refine ⟨_, Or.inl ⟨c, rfl, rfl⟩, hfin ?_⟩
      unfold um_wk um_wT
      rw [if_pos ek, if_pos rfl]
      refine q0.pos c e2 rfl rfl ?_ (fun k hk => fo_pa_n _ _ hk)
      rw [fo_pa_s, hs, rl_ps, e1]
    · have hlt := um_df_T ek hdf (by decide) hpos
      obtain ⟨mn, rfl, hmn⟩ := um_holds_nat (by rw [ew]; decide) (hho (by decide))
      have q0 := hbeg 0 (by decide)
      have hs : (fo_bg Tg p 0 (nI mn)).2.2 3 = (fo_bg Tg p 1 (nI mn)).2.2 3 := (rl_bgk _ _ _ _ _ (by decide)).symm
      refine ⟨_, Or.inr (Or.inr (Or.inr (Or.inr (Or.inl ⟨c, rfl, S.1 p 2, hlt, hst, rfl⟩)))), hfin ?_⟩
      unfold um_wk um_wT
      rw [if_pos ek, if_neg (by decide), if_pos rfl, nI_clamp (by omega), hB2]
      have hw : um_words (rl_u p) = 100 := by rw [eu, ew]
      have q1 := RLg.inn (Tg := Tg) (p := p) (mn := mn) (b := S.1 20 0) hp q0 (by rw [eu]; exact hB1) hTg (by rw [hw]; omega) (um_bring (fun b => BS.2 p (3 + b)) (nI (S.1 p 2)) (BS.2 p 1) 100) (fo_cp ((fo_bg Tg p 1 (nI mn)).2.2 8) ((fo_bg Tg p 1 (nI mn)).2.2 2) (100 * p) (100 * (64 * p + S.1 p 2)) 100) (fun q i hq hi => rl_cpOut hq hi) (fun i hi => by
        rw [hw] at hi
        rw [rl_cin0 hlt hi, rl_cpIn hi, rl_bgk _ _ _ _ _ (by decide)]
        have := q0.2.2.2.1 p (S.1 p 2) i (by omega) hlt hi
        rw [eu] at this
        exact this)
      rw [eu] at q1
      refine q1.pos c (by omega) rfl rfl ?_ (fun k hk => fo_pa_n _ _ hk)
      rw [fo_pa_s, fo_pa_n _ _ (by decide)]
    · have hlt := um_df_T ek hdf (by decide) hpos
      obtain ⟨mn, rfl, hmn⟩ := um_holds_nat (by rw [ew]; decide) (hho (by decide))
      rw [ew] at hmn
      have q0 := hbeg 2 (by decide)
      refine ⟨_, Or.inr (Or.inr (Or.inr (Or.inr (Or.inr (Or.inl ⟨c, rfl, S.1 p 2, mn, hlt, hst, rfl, hmn, rfl⟩))))), hfin ?_⟩
      unfold um_wk um_wT
      rw [if_pos ek, if_neg (by decide), if_neg (by decide), hB2]
      have q1 := q0.blk (p := p) (b := S.1 p 2) (mn := mn) (by omega) hlt hmn
      rw [eu] at q1
      refine q1.pos c (by omega) rfl rfl ?_ (fun k hk => fo_pa_n _ _ hk)
      rw [fo_pa_s, fo_pa_n _ _ (by decide)]
  · -- disks
    have ek := t1 c.1 c.2
    obtain ⟨x0, x1⟩ := um_df_K ek hdf
    obtain ⟨xn, hxn, rfl⟩ := nI_of x0
    have hx64 : xn < 64 := (nI_ltI (b := 64) hxn (by decide)).mp x1
    have ew : um_words (rl_u p) = 100 := (um_kd _ (um_k20' hk4)).2.1 ek
    rcases hop with rfl | rfl | rfl
    · refine ⟨_, Or.inr (Or.inl ⟨c.1, c.2, rfl, rfl⟩), hfin ?_⟩
      unfold um_wk um_wK
      rw [if_neg (show ¬ um_kind (rl_u p) = 0 by omega), if_pos ek, if_pos rfl]
      exact hbeg 0 (by decide)
    · obtain ⟨mn, rfl, hmn⟩ := um_holds_nat (by rw [ew]; decide) (hho (by decide))
      have q0 := hbeg 0 (by decide)
      refine ⟨_, Or.inr (Or.inr (Or.inr (Or.inr (Or.inr (Or.inr (Or.inl ⟨c.1, c.2, rfl, xn, hx64, rfl, rfl⟩)))))), hfin ?_⟩
      unfold um_wk um_wK
      rw [if_neg (show ¬ um_kind (rl_u p) = 0 by omega), if_pos ek, if_neg (by decide), if_pos rfl, nI_clamp (show mn < 2 ^ 31 by omega)]
      exact RLg.inn (Tg := Tg) (p := p) (mn := mn) (b := S.1 20 0) hp q0 hB1 hTg hmn (um_bring (fun b => BS.2 (rl_u p) (3 + b)) (nI xn) (BS.2 (rl_u p) 1) 100) (fo_cp ((fo_bg Tg p 1 (nI mn)).2.2 8) ((fo_bg Tg p 1 (nI mn)).2.2 2) (100 * p) (100 * (64 * p + xn)) 100) (fun q i hq hi => rl_cpOut hq hi) (fun i hi => by
        rw [ew] at hi
        rw [rl_cin0 hx64 hi, rl_cpIn hi, rl_bgk _ _ _ _ _ (by decide)]
        exact q0.2.2.2.1 p xn i (by omega) hx64 hi)
    · obtain ⟨mn, rfl, hmn⟩ := um_holds_nat (by rw [ew]; decide) (hho (by decide))
      rw [ew] at hmn
      have q0 := hbeg 2 (by decide)
      refine ⟨_, Or.inr (Or.inr (Or.inr (Or.inr (Or.inr (Or.inr (Or.inr (Or.inl ⟨c.1, c.2, rfl, xn, mn, hx64, rfl, rfl, hmn, rfl⟩))))))), hfin ?_⟩
      unfold um_wk um_wK
      rw [if_neg (show ¬ um_kind (rl_u p) = 0 by omega), if_pos ek, if_neg (by decide), if_neg (by decide), nI_clamp hxn]
      exact q0.blk (p := p) (b := xn) (mn := mn) (by omega) hx64 hmn
  · -- the reader
    have eu := t2 c
    have ek : um_kind (rl_u p) = 2 := by rw [eu]; decide
    obtain ⟨rfl, hc3⟩ := um_df_R ek hdf
    have ew : um_words (rl_u p) = 16 := by rw [eu]; decide
    have hc100 : S.1 16 3 ≤ 100 := h.1.2.1.2.2.2.1
    obtain ⟨mn, rfl, hmn⟩ := um_holds_nat (by rw [ew]; decide) (hho (by decide))
    have q0 := hbeg 0 (by decide)
    subst c
    rw [eu] at hc3 hB2 hB3
    refine ⟨_, Or.inr (Or.inr (Or.inr (Or.inr (Or.inr (Or.inr (Or.inr (Or.inr (Or.inl ⟨rfl, rfl, S.1 16 3, hc3, hc100, by rw [h.num], rfl⟩)))))))), hfin ?_⟩
    unfold um_wk um_wR
    rw [if_neg (show ¬ um_kind (rl_u 6) = 0 by omega), if_neg (show ¬ um_kind (rl_u 6) = 1 by omega), if_pos ek, nI_clamp (show mn < 2 ^ 31 by omega)]
    have al : (fo_bg Tg 6 0 (nI mn)).2.2 14 = fo_alp 56 := q0.2.2.2.2.2.2.2.2.2.2.2.2
    have q1 := RLg.inn (Tg := Tg) (p := 6) (mn := mn) (b := S.1 20 0) (by decide) q0 hB1 hTg hmn (um_rd (BS.2 16 2) (BS.2 16 1) (BS.1 16 2 * 16) 16) (fo_rb ((fo_bg Tg 6 1 (nI mn)).2.2 8) ((fo_bg Tg 6 1 (nI mn)).2.2 14) ((fo_bg Tg 6 1 (nI mn)).2.2 9) 16) (fun q i hq hi => by
      rw [rl_rb, if_neg (by omega)]) (fun i hi => by
      rw [ew] at hi
      rw [rl_rb, if_pos (by omega), show 5 * (100 * 6 + i - 600) = 80 * 0 + 5 * i by omega, rl_bgk _ _ _ _ 14 (by decide), rl_bgk _ _ _ _ 9 (by decide)]
      have q := q0.2.2.2.2.2.2.2.2.1 0 i (by rw [hB3]; exact hc3) hi
      have hO := q0.1.2.2.2.1
      rw [Nat.add_zero, Nat.mod_eq_of_lt hO] at q
      unfold um_rd
      rw [if_pos hi, q, al]
      obtain ⟨z, hz, ez⟩ := rl_cwN ((fo_bg Tg 6 0 (nI mn)).2.2 9) (80 * 0 + 5 * i)
      rw [ez, rl_told hz])
    rw [show rl_u 6 = 16 from rfl] at q1 ⊢
    have g2 : (um_sA (um_sA (um_sF BS 16 1 (um_rd (BS.2 16 2) (BS.2 16 1) (BS.1 16 2 * 16) 16)) 16 0 1) 16 5 mn).1 16 2 = BS.1 16 2 := by rw [um_sA_n _ (by decide), um_sA_n _ (by decide)]; rfl
    have g3 : (um_sA (um_sA (um_sF BS 16 1 (um_rd (BS.2 16 2) (BS.2 16 1) (BS.1 16 2 * 16) 16)) 16 0 1) 16 5 mn).1 16 3 = BS.1 16 3 := by rw [um_sA_n _ (by decide), um_sA_n _ (by decide)]; rfl
    rw [← hB3]
    rw [← g2, ← g3]
    refine q1.shift (by rw [g3, hB3]; exact hc3) ?_ rfl ?_ (fun k hk => fo_pa_n _ _ hk)
    · rfl
    · rw [fo_pa_s, fo_pa_n _ _ (by decide)]
  · -- the writers
    obtain ⟨l, hl, rfl⟩ : ∃ l, l < 3 ∧ p = 7 + l := ⟨p - 7, by omega, by omega⟩
    obtain ⟨eu, ek, ew, e24⟩ := rl_wl3 l hl
    rw [eu] at hho hdf hB2 ⊢
    simp only [eu] at hfin
    have h300 := h.1.2.1.2.1 (17 + l) ek
    have hli : T.2.2 10 l = nI (S.1 (17 + l) 2) := h.2.2.2.2.2.2.2.2.2.1 l hl
    have sk : ∀ (o : Int32), um_wk BS (17 + l) o m x = um_wW BS (17 + l) o m := fun o => by
      unfold um_wk
      rw [if_neg (show ¬ um_kind (17 + l) = 0 by omega), if_neg (show ¬ um_kind (17 + l) = 1 by omega), if_neg (show ¬ um_kind (17 + l) = 2 by omega)]
    rcases um_df_W ek hdf with rfl | ⟨rfl, h18, rfl⟩
    · obtain ⟨mn, rfl, hmn⟩ := um_holds_nat (by rw [ew]; omega) (hho (by decide))
      rw [ew] at hmn
      have q0 := hbeg 2 (by decide)
      by_cases cf : S.1 (17 + l) 2 = 300
      · refine ⟨_, Or.inr (Or.inr (Or.inr (Or.inr (Or.inr (Or.inr (Or.inr (Or.inr (Or.inr (Or.inr ⟨l, mn, hl, rfl, rfl, by rw [hli, cf], rfl, hmn, rfl⟩))))))))), hfin ?_⟩
        rw [sk]
        unfold um_wW
        rw [if_pos (hB2.trans cf)]
        exact q0
      · refine ⟨_, Or.inr (Or.inr (Or.inr (Or.inr (Or.inr (Or.inr (Or.inr (Or.inr (Or.inr (Or.inl ⟨l, S.1 (17 + l) 2, mn, hl, rfl, rfl, by omega, hli, rfl, hmn, rfl⟩))))))))), hfin ?_⟩
        rw [sk]
        unfold um_wW
        rw [if_neg (fun z => cf (hB2.symm.trans z)), if_neg (by decide)]
        have hm := q0.2.2.1
        have al : (fo_bg Tg (7 + l) 2 (nI mn)).2.2 14 = fo_alp 56 := q0.2.2.2.2.2.2.2.2.2.2.2.2
        have hle := um_len_le (BS.2 20 2) (nI mn) (um_words (17 + l) * 5)
        rw [← hB2]
        refine q0.line hl (by rw [hB2]; omega) (by rw [ew] at hle ⊢; omega) _ rfl rfl ?_ ?_ (fun j hj => ?_) (fun i hi => ?_) (fun k k10 k11 k12 => ?_)
        · rw [fo_pa_n _ _ (by decide), fo_pa_n _ _ (by decide), fo_pa_s]
        · rw [fo_pa_s, al, rl_len hm (w := fo_W l) hmn _ (Nat.le_refl _), ew, Nat.mul_comm (fo_W l) 5]
        · rw [fo_pa_n _ _ (by decide), fo_pa_s, rl_wl, if_neg (by omega)]
        · rw [fo_pa_n _ _ (by decide), fo_pa_s, rl_wl]
          rw [ew] at hle hi
          rw [if_pos (by omega), al, show 120 * (300 * l + BS.1 (17 + l) 2) + i - 120 * (300 * l + BS.1 (17 + l) 2) = i by omega, ← (rl_wc hm (by omega) (by omega)).1]
          unfold um_line
          rw [ew, if_pos hi]
          rfl
        · rw [fo_pa_n _ _ k11, fo_pa_n _ _ k12, fo_pa_n _ _ k10]
    · have hl1 : l = 1 := by omega
      subst hl1
      have q0 := hbeg 0 (by decide)
      have h18' : S.1 18 2 ≤ 300 := h300
      have hb18 : BS.1 18 2 = S.1 18 2 := hB2
      by_cases cf : S.1 18 2 = 300
      · refine ⟨_, Or.inr (Or.inr (Or.inr (Or.inl ⟨rfl, rfl, by rw [hli]; exact congrArg nI cf, rfl⟩))), hfin ?_⟩
        rw [sk]
        unfold um_wW
        rw [if_pos (hB2.trans cf)]
        exact q0
      · refine ⟨_, Or.inr (Or.inr (Or.inl ⟨rfl, rfl, S.1 18 2, by omega, hli, rfl⟩)), hfin ?_⟩
        rw [sk]
        unfold um_wW
        rw [if_neg (fun z => cf (hB2.symm.trans z)), if_pos rfl]
        have hB2' : S.1 18 2 = BS.1 18 2 := hB2.symm
        rw [hB2']
        refine q0.line (l := 1) (by decide) (show BS.1 18 2 < 300 by omega) (by decide) _ rfl rfl ?_ ?_ (fun j hj => ?_) (fun i hi => ?_) (fun k k10 k11 k12 => ?_)
        · rw [fo_pa_s]
        · rw [fo_pa_n _ _ (by decide), fo_pa_s]; rfl
        · rw [fo_pa_n _ _ (by decide), fo_pa_n _ _ (by decide), fo_pa_s, pk_un (fun z => hj (show 120 * (300 * 1 + BS.1 18 2) ≤ j ∧ j < 120 * (300 * 1 + BS.1 18 2) + 120 by omega))]
        · rw [fo_pa_n _ _ (by decide), fo_pa_n _ _ (by decide), fo_pa_s, show i = 0 by omega]
          exact (show um_ff 0 = vp_nar .byte 12 from pk_us).trans (show vp_nar .byte 12 = upd ((fo_bg Tg 8 0 0).2.2 12) (120 * (300 + BS.1 18 2)) (vp_nar .byte 12) (120 * (300 * 1 + BS.1 (17 + 1) 2) + 0) from (pk_us (f := (fo_bg Tg 8 0 0).2.2 12) (k := 120 * (300 + BS.1 18 2)) (x := vp_nar .byte 12)).symm)
        · rw [fo_pa_n _ _ k10, fo_pa_n _ _ k11, fo_pa_n _ _ k12]
end RLP
