/-! the law's contracts: the class -/
theorem RL.new : RL 0 um_S0 fo_T0 := by
  have z : ∀ d k, um_S0.1 d k = 0 := fun _ _ => rfl
  refine ⟨⟨fun d k => by rw [z]; decide, ⟨fun d _ => by rw [z]; decide, fun d _ => by rw [z]; decide, by rw [z]; decide, by rw [z]; decide, by rw [z]; decide, trivial⟩, fun u => ?_, by rw [z]; decide, fun d => by rw [z]; decide, by rw [z]; decide⟩, ?_, fun j _ => ?_, fun p b i _ _ _ => ?_, fun p hp => rfl, fun p hp => rfl, fun p hp => rfl, fun p hp q => absurd (z _ _) q, fun c w hc _ => absurd hc (by rw [z]; exact Nat.not_lt_zero _), fun l hl => rfl, ⟨fun l k _ hk => absurd hk (by rw [z]; exact Nat.not_lt_zero _), fun j _ => ?_⟩, fun k hk => absurd hk (by rw [z]; exact Nat.not_lt_zero _), rfl⟩
  · unfold um_due
    rw [z u 0, decide_eq_false (p := (0 : Nat) ≠ 0) (fun q => q rfl), Bool.and_false, Bool.false_and]
  · show ((0 : Int64), (0 : Int32), (0 : Int32), (0 : Int32)) = _
    rfl
  · show (0 : Int32) = fo_told 0
    decide
  · show (0 : Int32) = fo_told 0
    decide
  · show (0 : Int32) ≤ 120
    decide
theorem ur_Met {l : Launch} {y : MethodName} {ws : List Cond} {rm : Room} {Pc : Array Value → State → Prop} {Qc Qc' : Array Value → State → Outcome → State → Prop} {mc ms : Nat} {free : Addr → Prop} (h : Met l y ws rm Pc Qc mc ms free) (hq : ∀ a st o t, Qc a st o t → Qc' a st o t) : Met l y ws rm Pc Qc' mc ms free := by
  intro p e h1 h2 h3 s m args below h4 h5 h6 h7
  obtain ⟨n, o, a1, a2, a3, a4⟩ := h p e h1 h2 h3 s m args below h4 h5 h6 h7
  exact ⟨n, o, a1, a2, a3, hq _ _ _ _ a4.1, a4.2⟩
theorem ur_Mi.mono {l : Launch} {y : MethodName} {ws : List Cond} {rm : Room} {D : va_G} {cl : List vw_C} {V : ur_V} {av : List Value} {h : ur_M} {post post' : Int32 → ur_M → Prop} {mc ms : Nat} (hc : ur_Mi l y ws rm D cl V av h post mc ms) (hp : ∀ r u, post r u → post' r u) : ur_Mi l y ws rm D cl V av h post' mc ms := fun sz => ur_Met (hc sz) (fun _ _ _ _ q => by
  obtain ⟨⟨r, u, h1, h2, h3⟩, h4⟩ := q
  exact ⟨⟨r, u, h1, hp r u h2, h3⟩, h4⟩)
theorem ur_Ml.mono {l : Launch} {y : MethodName} {ws : List Cond} {rm : Room} {D : va_G} {cl : List vw_C} {V : ur_V} {av : List Value} {h : ur_M} {post post' : Int64 → ur_M → Prop} {mc ms : Nat} (hc : ur_Ml l y ws rm D cl V av h post mc ms) (hp : ∀ r u, post r u → post' r u) : ur_Ml l y ws rm D cl V av h post' mc ms := fun sz => ur_Met (hc sz) (fun _ _ _ _ q => by
  obtain ⟨⟨r, u, h1, h2, h3⟩, h4⟩ := q
  exact ⟨⟨r, u, h1, hp r u h2, h3⟩, h4⟩)
theorem ur_Mv.mono {l : Launch} {y : MethodName} {ws : List Cond} {rm : Room} {D : va_G} {cl : List vw_C} {V : ur_V} {av : List Value} {h : ur_M} {post post' : ur_M → Prop} {mc ms : Nat} (hc : ur_Mv l y ws rm D cl V av h post mc ms) (hp : ∀ u, post u → post' u) : ur_Mv l y ws rm D cl V av h post' mc ms := fun sz => ur_Met (hc sz) (fun _ _ _ _ q => by
  obtain ⟨⟨u, h1, h2, h3⟩, h4⟩ := q
  exact ⟨⟨u, h1, hp u h2, h3⟩, h4⟩)
/-- the class's object at q has the state S -/
def lw_C (E : ur_Ev) (q : Nat) (S : um_S) (h : ur_M) : Prop := ∃ a : um_Ad, a.1 20 0 = q ∧ um_A a S ∧ um_R E a S h
section LWC
variable {n : Nat} {S : um_S} {T : fo_S} {E : ur_Ev} {a : um_Ad} {h : ur_M}
theorem lU_feed (l : Launch) (D : va_G) (hR : um_R E a S h) (hA : um_A a S) (hL : RL n S T) (hn : n ≤ 600) (v1 v2 v3 v4 v5 : Int32) : ur_Mi l yU_feed wsU_feed rmkU_feed D vwCl (ur_v E) [.ref (a.1 20 0), .int v1, .int v2, .int v3, .int v4, .int v5] h (fun r h2 => r = um_b (um_room (nI (S.1 20 1))) ∧ lw_C E (a.1 20 0) (um_fdS S v1 v2 v3 v4 v5) h2) 0 0 :=
  (kU_feed l D E h (a.1 20 0) (a.1 20 1) (a.1 20 3) (a.1 16 0) (a.1 20 5) (lN (S.1 20 2)) (nI (S.1 20 0)) (a.1 20 4) (S.1 20 1) (S.2 20 4) v1 v2 v3 v4 v5 (hR.core rfl) (hR.core rfl) (hR.core rfl) hL.1.2.1.2.2.2.2.1).mono (fun r h2 q => ⟨q.1, a, rfl, um_A_same hA (fun _ _ _ => rfl) (fun p hp => um_sA_n _ (by omega)), by rw [q.2]; exact hR.feed v1 v2 v3 v4 v5⟩)
theorem lU_end (l : Launch) (D : va_G) (hR : um_R E a S h) (hA : um_A a S) (hL : RL n S T) (hn : n ≤ 600) (x : Int32) : ur_Mi l yU_end wsU_end rmkU_end D vwCl (ur_v E) [.ref (a.1 20 0), .int x] h (fun r h2 => r = um_b (um_cutok (nI (S.1 20 1)) x) ∧ lw_C E (a.1 20 0) (um_endS S x) h2) 0 0 :=
  (kU_end l D E h (a.1 20 0) (a.1 20 1) (a.1 20 3) (a.1 16 0) (a.1 20 5) (lN (S.1 20 2)) (nI (S.1 20 0)) (a.1 20 4) (nI (S.1 20 1)) x (hR.core rfl) (hR.core rfl)).mono (fun r h2 q => ⟨q.1, a, rfl, um_A_same hA (fun _ _ _ => rfl) (fun p hp => um_sA_n _ (by omega)), by rw [q.2]; exact hR.cut hL.1.2.1.2.2.2.2.1 x⟩)
theorem lU_set (l : Launch) (D : va_G) (hR : um_R E a S h) (hA : um_A a S) (hL : RL n S T) (hn : n ≤ 600) (x v z : Int32) : ur_Mi l yU_set wsU_set rmkU_set D vwCl (ur_v E) [.ref (a.1 20 0), .int x, .int v, .int z] h (fun r h2 => r = um_b (um_setok x v) ∧ lw_C E (a.1 20 0) (um_setS S x v z) h2) 0 0 :=
  (kU_set l D E h (a.1 20 0) (a.1 20 1) (a.1 20 3) (a.1 16 0) (a.1 20 5) (lN (S.1 20 2)) (nI (S.1 20 0)) (a.1 20 2) (S.2 20 2) x v z (hR.core rfl) (hR.core rfl) (hR.core rfl)).mono (fun r h2 q => ⟨q.1, a, rfl, um_A_same hA (fun _ _ _ => rfl) (fun p hp => rfl), by rw [q.2]; exact hR.mem _⟩)
theorem lU_fill (l : Launch) (D : va_G) (hR : um_R E a S h) (hA : um_A a S) (hL : RL n S T) (hn : n ≤ 600) (x k sd : Int32) : ur_Mi l yU_fill wsU_fill rmkU_fill D vwCl (ur_v E) [.ref (a.1 20 0), .int x, .int k, .int sd] h (fun r h2 => r = um_b (um_fillok x k) ∧ lw_C E (a.1 20 0) (um_filS S x k sd) h2) 0 0 :=
  (kU_fill l D E h (a.1 20 0) (a.1 20 1) (a.1 20 3) (a.1 16 0) (a.1 20 5) (lN (S.1 20 2)) (nI (S.1 20 0)) (a.1 20 2) (S.2 20 2) x k sd (hR.core rfl) (hR.core rfl) (hR.core rfl)).mono (fun r h2 q => ⟨q.1, a, rfl, um_A_same hA (fun _ _ _ => rfl) (fun p hp => rfl), by rw [q.2]; exact hR.mem _⟩)
theorem lU_word (l : Launch) (D : va_G) (hR : um_R E a S h) (hA : um_A a S) (hL : RL n S T) (hn : n ≤ 600) (x : Int32) : ur_Mi l yU_word wsU_word rmkU_word D vwCl (ur_v E) [.ref (a.1 20 0), .int x] h (fun r h2 => r = um_at (S.2 20 2) x ∧ lw_C E (a.1 20 0) S h2) 0 0 :=
  (kU_word l D E h (a.1 20 0) (a.1 20 1) (a.1 20 3) (a.1 16 0) (a.1 20 5) (lN (S.1 20 2)) (nI (S.1 20 0)) (a.1 20 2) (S.2 20 2) x (hR.core rfl) (hR.core rfl) (hR.core rfl)).mono (fun r h2 q => ⟨q.1, a, rfl, hA, by rw [q.2]; exact hR⟩)
theorem lU_busy (l : Launch) (D : va_G) (hR : um_R E a S h) (hA : um_A a S) (hL : RL n S T) (hn : n ≤ 600) (u : Int32) : ur_Mi l yU_isBusy wsU_isBusy rmkU_busy D vwCl (ur_v E) [.ref (a.1 20 0), .int u] h (fun r h2 => r = um_b (um_busy S u) ∧ lw_C E (a.1 20 0) S h2) 0 0 :=
  (kU_busy l D E h a S u hR hL.1.1).mono (fun r h2 q => ⟨q.1, a, rfl, hA, by rw [q.2]; exact hR⟩)
theorem lU_unit (l : Launch) (D : va_G) (hR : um_R E a S h) (hA : um_A a S) (hL : RL n S T) (hn : n ≤ 600) (u : Int32) : ur_Mi l yU_unit wsU_unit rmkU_unit D vwCl (ur_v E) [.ref (a.1 20 0), .int u] h (fun r h2 => r = um_unit S u ∧ lw_C E (a.1 20 0) S h2) 0 0 :=
  (kU_unit l D E h a S u hR hL.1.1).mono (fun r h2 q => ⟨q.1, a, rfl, hA, by rw [q.2]; exact hR⟩)
theorem lU_block (l : Launch) (D : va_G) (hR : um_R E a S h) (hA : um_A a S) (hL : RL n S T) (hn : n ≤ 600) (u b i : Int32) : ur_Mi l yU_block wsU_block rmkU_block D vwCl (ur_v E) [.ref (a.1 20 0), .int u, .int b, .int i] h (fun r h2 => r = um_blck S u b i ∧ lw_C E (a.1 20 0) S h2) 0 0 :=
  (kU_block l D E h a S u b i hR hL.1.1).mono (fun r h2 q => ⟨q.1, a, rfl, hA, by rw [q.2]; exact hR⟩)
theorem lU_letter (l : Launch) (D : va_G) (hR : um_R E a S h) (hA : um_A a S) (hL : RL n S T) (hn : n ≤ 600) (u k i : Int32) : ur_Mi l yU_letter wsU_letter rmkU_letter D vwCl (ur_v E) [.ref (a.1 20 0), .int u, .int k, .int i] h (fun r h2 => r = um_letr S u k i ∧ lw_C E (a.1 20 0) S h2) 0 0 :=
  (kU_letter l D E h a S u k i hR hL.1.1 hL.1.2.1.2.1).mono (fun r h2 q => ⟨q.1, a, rfl, hA, by rw [q.2]; exact hR⟩)
theorem lU_pass (l : Launch) (D : va_G) (hR : um_R E a S h) (hA : um_A a S) (hL : RL n S T) (hn : n ≤ 600) (k : Int32) : ur_Ml l yU_pass wsU_pass rmkU_pass D vwCl (ur_v E) [.ref (a.1 20 0), .int k] h (fun r h2 => r = lN (S.1 20 2 + um_dt k) ∧ lw_C E (a.1 20 0) (um_goTo S (S.1 20 2 + um_dt k)) h2) 0 0 :=
  (kU_pass l D E h a S k hR hL.1.1 (by have := hL.1.2.2.2.1; omega)).mono (fun r h2 q => ⟨q.1, a, rfl, um_A_same hA (fun _ _ _ => rfl) (fun p hp => by unfold um_goTo; rw [um_go_A _ _ _ _ (by decide)]; exact um_sA_n S (fun z => um_d20 (by omega) z.1)), q.2⟩)
theorem lU_op (l : Launch) (D : va_G) (hR : um_R E a S h) (hA : um_A a S) (hL : RL n S T) (hn : n ≤ 600) (u op mv x : Int32) : ur_Mi l yU_operate wsU_operate rmkU_op D vwCl (ur_v E) [.ref (a.1 20 0), .int u, .int op, .int mv, .int x] h (fun r h2 => r = um_opr S u op mv x ∧ lw_C E (a.1 20 0) (um_opS S u op mv x) h2) 1 120 :=
  (kU_op l D E h a S u op mv x hR hL.1.1 hA hL.1.2.1 (fun d => by have := hL.1.2.2.2.2.1 d; omega) (by have := hL.1.2.2.2.1; omega)).mono (fun r h2 q => q)
theorem lU_card (l : Launch) (D : va_G) (hR : um_R E a S h) (hA : um_A a S) (hL : RL n S T) (hn : n ≤ 600) (hc : S.1 16 3 < 100) : ur_Mi l yU_card wsU_card rmkU_card D vwCl (ur_v E) [.ref (a.1 20 0)] h (fun r h2 => r = um_crd S ∧ lw_C E (a.1 20 0) (um_crdS S) h2) 0 0 :=
  (kU_card l D E h (a.1 20 0) (a.1 20 1) (a.1 20 3) (a.1 20 5) (lN (S.1 20 2)) (nI (S.1 20 0)) (a.1 16 0) (a.1 16 1) (a.1 16 2) (S.1 16 2) (S.1 16 3) (a.1 20 4) (S.1 20 1) (nI (um_dur 16)) (nI (S.1 16 0)) (nI (S.1 16 1)) (nI (S.1 16 5)) (lN (S.1 16 4)) (S.2 16 2) (S.2 20 4) (hR.core rfl) ((hR.dev (d := 16) (by decide)).trans (congrArg some (um_devR (by decide)))) ((hR.two (d := 16) (by decide)).trans (congrArg some (um_twoR (by decide)))) (hR.core rfl) (hR.core rfl) hL.1.2.1.2.2.1 hc hL.1.2.1.2.2.2.2.1).mono (fun r h2 q => ⟨q.1.trans (if_pos hc).symm, a, rfl, um_A_same hA (fun _ _ _ => rfl) (fun p hp => by unfold um_crdS; rw [if_pos hc]; exact (um_sA_n _ (by omega)).trans (um_sA_n _ (by omega))), by rw [q.2]; exact hR.card hL.1.2.1.2.2.2.2.1 hc⟩)
theorem lU_cardF (l : Launch) (D : va_G) (hR : um_R E a S h) (hA : um_A a S) (hL : RL n S T) (hn : n ≤ 600) (hc : ¬ S.1 16 3 < 100) : ur_Mi l yU_card wsU_card rmkU_cardF D vwCl (ur_v E) [.ref (a.1 20 0)] h (fun r h2 => r = um_crd S ∧ lw_C E (a.1 20 0) (um_crdS S) h2) 0 0 :=
  (kU_cardF l D E h (a.1 20 0) (a.1 20 1) (a.1 20 3) (a.1 20 5) (lN (S.1 20 2)) (nI (S.1 20 0)) (a.1 16 0) (a.1 16 1) (a.1 16 2) (S.1 16 2) (S.1 16 3) (a.1 20 4) (S.1 20 1) (nI (um_dur 16)) (nI (S.1 16 0)) (nI (S.1 16 1)) (nI (S.1 16 5)) (lN (S.1 16 4)) (S.2 16 2) (S.2 20 4) (hR.core rfl) ((hR.dev (d := 16) (by decide)).trans (congrArg some (um_devR (by decide)))) ((hR.two (d := 16) (by decide)).trans (congrArg some (um_twoR (by decide)))) (hR.core rfl) (hR.core rfl) (by have := hL.1.2.1.2.2.2.1; omega) hL.1.2.1.2.2.2.2.1).mono (fun r h2 q => ⟨q.1.trans (if_neg hc).symm, a, rfl, um_A_same hA (fun _ _ _ => rfl) (fun p hp => by unfold um_crdS; rw [if_neg hc]; exact um_sA_n _ (by omega)), by rw [q.2]; unfold um_crdS; rw [if_neg hc]; exact hR.cut hL.1.2.1.2.2.2.2.1 0⟩)
end LWC
