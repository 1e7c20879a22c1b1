/-! the law's contracts: the reference -/
section LWF
variable {n : Nat} {S : um_S} {T : fo_S} {E : ur_Ev} {b : Nat → Nat} {h : ur_M}
/-- the reference's object has a state that is related to S -/
def lw_F (E : ur_Ev) (b : Nat → Nat) (n : Nat) (S : um_S) (h : ur_M) : Prop := ∃ T : fo_S, fo_R E b T h ∧ RL n S T
theorem lF_feed (l : Launch) (D : va_G) (hT : fo_R E b T h) (hL : RL n S T) (hn : n ≤ 600) (v1 v2 v3 v4 v5 : Int32) (hc : S.1 20 1 ≤ 380) : ur_Mi l yF_feed wsF_feed rmkF_feed D vwCl (ur_v E) [.ref (b 0), .int v1, .int v2, .int v3, .int v4, .int v5] h (fun r h2 => r = um_b (um_room (nI (S.1 20 1))) ∧ lw_F E b (n + 1) (um_fdS S v1 v2 v3 v4 v5) h2) 0 0 :=
  (kF_feed l D E h (b 0) (b 1) (b 2) (b 3) (b 4) (b 5) (b 6) (b 7) (b 8) (b 9) (b 10) (b 11) (b 12) (b 13) (b 14) T.1.1 T.1.2.1 T.1.2.2.1 (S.1 20 1) v1 v2 v3 v4 v5 (T.2.2 13) (show h (b 0) = some (fo_ob b (T.1.1, T.1.2.1, T.1.2.2.1, nI (S.1 20 1))) by have z := hT.obj; rw [hL.num] at z ⊢; exact z) (hT.arr 13 (by decide) (by decide) (by decide)) hc).mono (fun r h2 q => ⟨q.1.trans (by rw [rl_room (by omega), decide_eq_true hc]), _, by rw [q.2]; exact (hT.pa 13 _ (by decide) (by decide) (by decide)).po (T.1.1, T.1.2.1, T.1.2.2.1, nI (S.1 20 1 + 20)), hL.feed hc v1 v2 v3 v4 v5⟩)
theorem lF_feedF (l : Launch) (D : va_G) (hT : fo_R E b T h) (hL : RL n S T) (hn : n ≤ 600) (v1 v2 v3 v4 v5 : Int32) (hc : ¬ S.1 20 1 ≤ 380) : ur_Mi l yF_feed wsF_feed rmkF_feedF D vwCl (ur_v E) [.ref (b 0), .int v1, .int v2, .int v3, .int v4, .int v5] h (fun r h2 => r = um_b (um_room (nI (S.1 20 1))) ∧ lw_F E b (n + 1) (um_fdS S v1 v2 v3 v4 v5) h2) 0 0 :=
  (kF_feedF l D E h (b 0) (b 1) (b 2) (b 3) (b 4) (b 5) (b 6) (b 7) (b 8) (b 9) (b 10) (b 11) (b 12) (b 13) (b 14) T.1.1 T.1.2.1 T.1.2.2.1 (S.1 20 1) v1 v2 v3 v4 v5 (T.2.2 13) (show h (b 0) = some (fo_ob b (T.1.1, T.1.2.1, T.1.2.2.1, nI (S.1 20 1))) by have z := hT.obj; rw [hL.num] at z ⊢; exact z) (hT.arr 13 (by decide) (by decide) (by decide)) (by omega) hL.1.2.1.2.2.2.2.1).mono (fun r h2 q => ⟨q.1.trans (by rw [rl_room hL.1.2.1.2.2.2.2.1, decide_eq_false hc]), _, by rw [q.2]; exact hT, hL.feedF hc v1 v2 v3 v4 v5⟩)
theorem lF_end (l : Launch) (D : va_G) (hT : fo_R E b T h) (hL : RL n S T) (hn : n ≤ 600) (x : Int32) : ur_Mi l yF_end wsF_end rmkF_end D vwCl (ur_v E) [.ref (b 0), .int x] h (fun r h2 => r = um_b (um_cutok (nI (S.1 20 1)) x) ∧ lw_F E b (n + 1) (um_endS S x) h2) 0 0 :=
  (kF_end l D E h (b 0) (b 1) (b 2) (b 3) (b 4) (b 5) (b 6) (b 7) (b 8) (b 9) (b 10) (b 11) (b 12) (b 13) (b 14) T.1.1 T.1.2.1 T.1.2.2.1 T.1.2.2.2 x hT.obj).mono (fun r h2 q => ⟨q.1.trans (by rw [(rl_cut _ _).1, show T.1.2.2.2 = nI (S.1 20 1) by rw [hL.num]]), _, by rw [q.2]; exact hT.po (T.1.1, T.1.2.1, T.1.2.2.1, fo_endn T.1.2.2.2 x), hL.end x⟩)
theorem lF_set (l : Launch) (D : va_G) (hT : fo_R E b T h) (hL : RL n S T) (hn : n ≤ 600) (x v z : Int32) : ur_Mi l yF_set wsF_set rmkF_set D vwCl (ur_v E) [.ref (b 0), .int x, .int v, .int z] h (fun r h2 => r = um_b (um_setok x v) ∧ lw_F E b (n + 1) (um_setS S x v z) h2) 0 0 :=
  (kF_set l D E h (b 0) (b 1) (b 2) (b 3) (b 4) (b 5) (b 6) (b 7) (b 8) (b 9) (b 10) (b 11) (b 12) (b 13) (b 14) T.1.1 T.1.2.1 T.1.2.2.1 T.1.2.2.2 (T.2.2 1) x v z hT.obj (hT.arr 1 (by decide) (by decide) (by decide))).mono (fun r h2 q => ⟨q.1.trans (by rw [rl_setok]), _, by rw [q.2]; exact hT.pa 1 _ (by decide) (by decide) (by decide), hL.set x v z⟩)
theorem lF_fill (l : Launch) (D : va_G) (hT : fo_R E b T h) (hL : RL n S T) (hn : n ≤ 600) (x k sd : Int32) : ur_Mi l yF_fill wsF_fill rmkF_fill D vwCl (ur_v E) [.ref (b 0), .int x, .int k, .int sd] h (fun r h2 => r = um_b (um_fillok x k) ∧ lw_F E b (n + 1) (um_filS S x k sd) h2) 0 0 :=
  (kF_fill l D E h (b 0) (b 1) (b 2) (b 3) (b 4) (b 5) (b 6) (b 7) (b 8) (b 9) (b 10) (b 11) (b 12) (b 13) (b 14) T.1.1 T.1.2.1 T.1.2.2.1 T.1.2.2.2 (T.2.2 1) x k sd hT.obj (hT.arr 1 (by decide) (by decide) (by decide))).mono (fun r h2 q => ⟨q.1.trans (by rw [rl_fillok]), _, by rw [q.2]; exact hT.pa 1 _ (by decide) (by decide) (by decide), hL.fill x k sd⟩)
theorem lF_word (l : Launch) (D : va_G) (hT : fo_R E b T h) (hL : RL n S T) (hn : n ≤ 600) (x : Int32) : ur_Mi l yF_word wsF_word rmkF_word D vwCl (ur_v E) [.ref (b 0), .int x] h (fun r h2 => r = um_at (S.2 20 2) x ∧ lw_F E b (n + 1) S h2) 0 0 :=
  (kF_word l D E h (b 0) (b 1) (b 2) (b 3) (b 4) (b 5) (b 6) (b 7) (b 8) (b 9) (b 10) (b 11) (b 12) (b 13) (b 14) T.1.1 T.1.2.1 T.1.2.2.1 T.1.2.2.2 (T.2.2 1) x hT.obj (hT.arr 1 (by decide) (by decide) (by decide))).mono (fun r h2 q => ⟨q.1.trans (rl_word hL.2.2.1 x).symm, _, by rw [q.2]; exact hT, hL.up⟩)
theorem lF_busy (l : Launch) (D : va_G) (hT : fo_R E b T h) (hL : RL n S T) (hn : n ≤ 600) (u : Int32) : ur_Mi l yF_isBusy wsF_isBusy rmkF_busy D vwCl (ur_v E) [.ref (b 0), .int u] h (fun r h2 => r = um_b (um_busy S u) ∧ lw_F E b (n + 1) S h2) 0 0 :=
  (kF_busy l D E h (b 0) (b 1) (b 2) (b 3) (b 4) (b 5) (b 6) (b 7) (b 8) (b 9) (b 10) (b 11) (b 12) (b 13) (b 14) T.1.1 T.1.2.1 T.1.2.2.1 T.1.2.2.2 T.2.1 u hT.obj hT.frees).mono (fun r h2 q => ⟨q.1.trans (by rw [rl_busy hL.1.1 hL.2.1 hL.2.2.2.2.2.1]), _, by rw [q.2]; exact hT, hL.up⟩)
theorem lF_unit (l : Launch) (D : va_G) (hT : fo_R E b T h) (hL : RL n S T) (hn : n ≤ 600) (u : Int32) : ur_Mi l yF_unit wsF_unit rmkF_unit D vwCl (ur_v E) [.ref (b 0), .int u] h (fun r h2 => r = um_unit S u ∧ lw_F E b (n + 1) S h2) 0 0 :=
  (kF_unit l D E h (b 0) (b 1) (b 2) (b 3) (b 4) (b 5) (b 6) (b 7) (b 8) (b 9) (b 10) (b 11) (b 12) (b 13) (b 14) T.1.1 T.1.2.1 T.1.2.2.1 T.1.2.2.2 (T.2.2 3) (T.2.2 10) u hT.obj (hT.arr 3 (by decide) (by decide) (by decide)) (hT.arr 10 (by decide) (by decide) (by decide))).mono (fun r h2 q => ⟨q.1.trans (rl_unit hL.2.1 hL.2.2.2.2.1 hL.2.2.2.2.2.2.2.2.2.1 u).symm, _, by rw [q.2]; exact hT, hL.up⟩)
theorem lF_block (l : Launch) (D : va_G) (hT : fo_R E b T h) (hL : RL n S T) (hn : n ≤ 600) (u c i : Int32) : ur_Mi l yF_block wsF_block rmkF_block D vwCl (ur_v E) [.ref (b 0), .int u, .int c, .int i] h (fun r h2 => r = um_blck S u c i ∧ lw_F E b (n + 1) S h2) 0 0 :=
  (kF_block l D E h (b 0) (b 1) (b 2) (b 3) (b 4) (b 5) (b 6) (b 7) (b 8) (b 9) (b 10) (b 11) (b 12) (b 13) (b 14) T.1.1 T.1.2.1 T.1.2.2.1 T.1.2.2.2 (T.2.2 2) u c i hT.obj (hT.arr 2 (by decide) (by decide) (by decide))).mono (fun r h2 q => ⟨q.1.trans (rl_block hL.2.2.2.1 u c i).symm, _, by rw [q.2]; exact hT, hL.up⟩)
theorem lF_letter (l : Launch) (D : va_G) (hT : fo_R E b T h) (hL : RL n S T) (hn : n ≤ 600) (u k i : Int32) : ur_Mi l yF_letter wsF_letter rmkF_letter D vwCl (ur_v E) [.ref (b 0), .int u, .int k, .int i] h (fun r h2 => r = um_letr S u k i ∧ lw_F E b (n + 1) S h2) 0 0 :=
  (kF_letter l D E h (b 0) (b 1) (b 2) (b 3) (b 4) (b 5) (b 6) (b 7) (b 8) (b 9) (b 10) (b 11) (b 12) (b 13) (b 14) T.1.1 T.1.2.1 T.1.2.2.1 T.1.2.2.2 (T.2.2 10) (T.2.2 11) (T.2.2 12) u k i hT.obj (hT.arr 10 (by decide) (by decide) (by decide)) (hT.arr 11 (by decide) (by decide) (by decide)) (hT.arr 12 (by decide) (by decide) (by decide)) hL.2.2.2.2.2.2.2.2.2.2.1.2).mono (fun r h2 q => ⟨q.1.trans (rl_letter hL.1.2.1 hL.2.2.2.2.2.2.2.2.2.1 hL.2.2.2.2.2.2.2.2.2.2.1 u k i).symm, _, by rw [q.2]; exact hT, hL.up⟩)
theorem lF_pass (l : Launch) (D : va_G) (hT : fo_R E b T h) (hL : RL n S T) (hn : n ≤ 600) (k : Int32) : ur_Ml l yF_pass wsF_pass rmkF_pass D vwCl (ur_v E) [.ref (b 0), .int k] h (fun r h2 => r = lN (S.1 20 2 + um_dt k) ∧ lw_F E b (n + 1) (um_goTo S (S.1 20 2 + um_dt k)) h2) 0 0 :=
  (kF_pass l D E h b T k hT hL.gl).mono (fun r h2 q => ⟨q.1.trans (hL.pass hn k).2, _, q.2, (hL.pass hn k).1⟩)
theorem lF_card (l : Launch) (D : va_G) (hT : fo_R E b T h) (hL : RL n S T) (hn : n ≤ 600) (hc : S.1 16 3 < 100) : ur_Mi l yF_card wsF_card rmkF_card D vwCl (ur_v E) [.ref (b 0)] h (fun r h2 => r = um_crd S ∧ lw_F E b (n + 1) (um_crdS S) h2) 0 0 :=
  (kF_card l D E h (b 0) (b 1) (b 2) (b 3) (b 4) (b 5) (b 6) (b 7) (b 8) (b 9) (b 10) (b 11) (b 12) (b 13) (b 14) T.1.1 T.1.2.1 (S.1 16 3) (S.1 20 1) (T.2.2 9) (T.2.2 13) (show h (b 0) = some (fo_ob b (T.1.1, T.1.2.1, nI (S.1 16 3), nI (S.1 20 1))) by have z := hT.obj; rw [hL.num] at z ⊢; exact z) (hT.arr 9 (by decide) (by decide) (by decide)) (hT.arr 13 (by decide) (by decide) (by decide)) hc hL.1.2.1.2.2.2.2.1).mono (fun r h2 q => ⟨q.1.trans (if_pos hc).symm, _, by rw [q.2]; exact (hT.pa 9 _ (by decide) (by decide) (by decide)).po (T.1.1, T.1.2.1, nI (S.1 16 3 + 1), 0), hL.card hc⟩)
theorem lF_cardF (l : Launch) (D : va_G) (hT : fo_R E b T h) (hL : RL n S T) (hn : n ≤ 600) (hc : ¬ S.1 16 3 < 100) : ur_Mi l yF_card wsF_card rmkF_cardF D vwCl (ur_v E) [.ref (b 0)] h (fun r h2 => r = um_crd S ∧ lw_F E b (n + 1) (um_crdS S) h2) 0 0 :=
  (kF_cardF l D E h (b 0) (b 1) (b 2) (b 3) (b 4) (b 5) (b 6) (b 7) (b 8) (b 9) (b 10) (b 11) (b 12) (b 13) (b 14) T.1.1 T.1.2.1 (S.1 16 3) (S.1 20 1) (T.2.2 9) (T.2.2 13) (show h (b 0) = some (fo_ob b (T.1.1, T.1.2.1, nI (S.1 16 3), nI (S.1 20 1))) by have z := hT.obj; rw [hL.num] at z ⊢; exact z) (hT.arr 9 (by decide) (by decide) (by decide)) (hT.arr 13 (by decide) (by decide) (by decide)) (by have := hL.1.2.1.2.2.2.1; omega)).mono (fun r h2 q => ⟨q.1.trans (if_neg hc).symm, fo_po T (T.1.1, T.1.2.1, nI (S.1 16 3), 0), by rw [q.2]; exact hT.po (T.1.1, T.1.2.1, nI (S.1 16 3), 0), by have z := hL.cardF hc; rw [show T.1.2.2.1 = nI (S.1 16 3) by rw [hL.num]] at z; exact z⟩)
/-- an operation: a fault, or none -/
theorem rl_opr (hL : RL n S T) (u op mv x : Int32) : um_opr S u op mv x = fo_flt (T.2.2 3) T.1.2.2.1 (fo_pl u) op mv x ∧ (um_opr S u op mv x = 0 ∨ 0 < um_opr S u op mv x) := by
  rcases rl_pl u with ⟨e1, e2⟩ | ⟨p, hp, e1, e2, -⟩
  · rw [um_opr_none e1, e2]
    obtain ⟨z1, z2⟩ := rl_fltN (T.2.2 3) T.1.2.2.1 op mv x
    exact ⟨z1, Or.inr z2⟩
  · rw [um_opr_some e1, e2]
    refine ⟨rl_flt hL.1.2.1 hL.2.1 hL.2.2.2.2.1 hp op mv x, ?_⟩
    by_cases c : um_flt S (rl_u p) op mv x = 0
    · exact Or.inl c
    · exact Or.inr (rl_flt_pos _ _ _ _ _ c)
theorem lF_opE (l : Launch) (D : va_G) (hT : fo_R E b T h) (hL : RL n S T) (hn : n ≤ 600) (u op mv x : Int32) (hc : ¬ um_opr S u op mv x = 0) : ur_Mi l yF_operate wsF_operate rmkF_opE D vwCl (ur_v E) [.ref (b 0), .int u, .int op, .int mv, .int x] h (fun r h2 => r = um_opr S u op mv x ∧ lw_F E b (n + 1) (um_opS S u op mv x) h2) 0 0 :=
  (kF_opE l D E h b T u op mv x hT (by rw [← (rl_opr hL u op mv x).1]; exact (rl_opr hL u op mv x).2.resolve_left hc)).mono (fun r h2 q => ⟨q.1.trans (rl_opr hL u op mv x).1.symm, T, by rw [q.2]; exact hT, by
    rcases rl_pl u with ⟨e1, e2⟩ | ⟨p, hp, e1, e2, -⟩
    · rw [um_opS_none e1]; exact hL.up
    · rw [um_opr_some e1] at hc
      rw [um_opS_some e1, if_neg hc]; exact hL.up⟩)
theorem lF_op (l : Launch) (D : va_G) (hT : fo_R E b T h) (hL : RL n S T) (hn : n ≤ 600) (u op mv x : Int32) (hc : um_opr S u op mv x = 0) : ur_Mi l yF_operate wsF_operate rmkF_op D vwCl (ur_v E) [.ref (b 0), .int u, .int op, .int mv, .int x] h (fun r h2 => r = um_opr S u op mv x ∧ lw_F E b (n + 1) (um_opS S u op mv x) h2) 0 0 := by
  rcases rl_pl u with ⟨e1, e2⟩ | ⟨p, hp, e1, e2, -⟩
  · rw [um_opr_none e1] at hc
    have := (rl_fltN (T.2.2 3) T.1.2.2.1 op mv x).2
    rw [hc] at this
    exact absurd this (by decide)
  · have hf : um_flt S (rl_u p) op mv x = 0 := by rw [um_opr_some e1] at hc; exact hc
    obtain ⟨K, hK, hS⟩ := hL.op hn hp hf
    refine (kF_op l D E h b T u op mv x p K hT hL.gl e2 hp (by rw [← (rl_opr hL u op mv x).1]; exact hc) hK).mono (fun r h2 q => ⟨q.1.trans hc.symm, _, q.2, ?_⟩)
    rw [um_opS_some e1, if_pos hf]
    exact hS
end LWF
