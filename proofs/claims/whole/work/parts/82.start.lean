/-! the law, from its entry -/
theorem lU_init (l : Launch) (D : va_G) {E : ur_Ev} {h : ur_M} {q : Nat} (f0 : h q = some (.inr (0, [.null, .null, .null, .null, .long 0, .int 0]))) : ur_Mv l yU_init wsU_init rmkU_init D vwCl (ur_v E) [.ref q] h (fun h2 => lw_C E q um_S0 h2) 35 8399 :=
  (kU_init l D E h q f0).mono (fun h2 z => by
    obtain ⟨w1, wb4, w6, wb9, w11, wb14, wl14, w16, w20, wb23, wl23, w26, wb29, wl29, w32, wb35, wl35, w38, wb41, wl41, w44, wb47, wl47, w49, wb52, wl52, w55, wb58, wl58, w60, wb63, wl63, w65, wb68, wl68, hL⟩ := z
    exact um_new E q w1 wb4 w6 wb9 w11 wb14 wl14 w16 w20 wb23 wl23 w26 wb29 wl29 w32 wb35 wl35 w38 wb41 wl41 w44 wb47 wl47 w49 wb52 wl52 w55 wb58 wl58 w60 wb63 wl63 w65 wb68 wl68 hL)
theorem lw_one {h : ur_M} {q : Nat} {x : va_E} (hq : h q = none) : va_up h q (some x) = lw_un h (va_up (fun _ => none) q (some x)) ∧ ∀ y, h y = none ∨ va_up (fun _ => none) q (some x) y = none := by
  refine ⟨?_, fun y => ?_⟩
  · funext y
    by_cases e : y = q
    · subst e
      rw [va_up_self, lw_un0 hq, va_up_self]
    · rw [va_up_ne _ _ e]
      cases z : h y with
      | some v => rw [lw_unL z]
      | none => rw [lw_un0 z, va_up_ne _ _ e]
  · by_cases e : y = q
    · subst e; exact Or.inl hq
    · exact Or.inr (va_up_ne _ _ e)
set_option maxHeartbeats 4000000 in
set_option maxRecDepth 100000 in
/-- THE LAW, from its entry -/
theorem whole_start {p : Program} {e : Env} {s : State} {m : MethodId} {below : List Frame} {meth : Method} {c : Code} (l : Launch) {b L : Nat} {xs : Nat → Int32} (hL : L ≤ 3072) (C0 : lw_At p s m meth c b L xs) : W p l e room_1 s m #[Value.ref b] below meth c s.heap [] 0 0 (lw_Z below #[Value.ref b] s) (entryFrame m ([Value.ref b] : List Value).toArray 4) := by
  obtain ⟨hx, hb, hr, hml, hown, hts, hX, hbl, hlocks, hgv⟩ := C0
  have hown : s.vm.findClass "UnitRoomLaw" = some m.cls := hown
  obtain ⟨D, E, hK, hO⟩ := lw_env hts hgv
  have htsG : ∀ w ∈ ur_G, w.before #[Value.ref b] s = true := fun w hw => hts w (List.mem_filter.mp hw).1
  have hV := hK.1
  have hbA : ¬ ur_A (fun _ => none) s.heap.size b := lw_noA b hbl
  have hI : ur_I D vwCl (ur_A (fun _ => none) s.heap.size) s.heap (fun _ => none) s.heap [] := ⟨(fun a e q => by cases q), (fun a e q => by cases q), va_S.rf, fun q hq => Or.inr hq⟩
  have hl := lv_entry ([.ref b]) (n := 4) (Nat.le_of_ble_eq_true rfl)
  rw [lg_entry_eq]
  generalize (lg_sl ([.ref b]) ++ List.replicate (4 - (lg_sl ([.ref b])).length) Slot.unset).toArray = ls at hl ⊢
  have hl : lv_has ls 4 [(0, .ref b)] := hl
  refine ur_new (ci := 0) (fs := [.null, .null, .null, .null, .long 0, .int 0]) (C := "UnitRoom") (T := TU) (N := 6) hx hb htsG inU tyU tyU_ok hown (htsG _ mw18) (htsG _ mw19) (htsG _ mw1) hV hI rfl (by decide) (Nat.le_of_ble_eq_true rfl) (Nat.le_of_ble_eq_true rfl) dL_law_0 (fun q1 H zq1 hI => ?_)
  refine lv_dup hx hb dL_law_3 rfl ?_
  refine ur_xv (va_runI (As := []) (rest := [.ref q1]) ⟨hx, hb, hml, hown, htsG⟩ (lU_init l D (va_up_self _ _ _) H.size) (cwI 0 htsG (ur_gI mw22) rfl rfl rfl (htsG _ mw1) (htsG _ mw20) (htsG _ mw21) rfl (by decide +kernel) ⟨(Nat.le_of_ble_eq_true rfl), (Nat.le_of_ble_eq_true rfl)⟩) ⟨ur_blind, ur_pre hI hO hK (fun _ _ z9 => z9)⟩ rfl rfl hl.1 rfl (lv_room (Nat.le_of_ble_eq_true rfl)) dL_law_4 ⟨Nat.le_of_ble_eq_true rfl, Nat.le_of_ble_eq_true rfl⟩) hI (fun hC H locs hCq hI => ?_)
  refine lv_astore_n (lv' := [(1, .ref q1), (0, .ref b)]) hx hb dL_law_7 rfl hl (by decide) rfl (fun ls hl => ?_)
  refine ur_new (ci := 7) (fs := [.null, .null, .null, .long 0, .null, .null, .null, .null, .int 0, .null, .int 0, .null, .null, .null, .null, .null, .int 0, .null]) (C := "UnitRoomModel") (T := TF) (N := 18) hx hb htsG inF tyF tyF_ok hown (htsG _ mw569) (htsG _ mw570) (htsG _ mw11) hV hI rfl (by decide) (Nat.le_of_ble_eq_true rfl) (Nat.le_of_ble_eq_true rfl) dL_law_8 (fun q2 H zq2 hI => ?_)
  obtain ⟨e1, hdj⟩ := lw_one (x := .inr (7, [.null, .null, .null, .long 0, .null, .null, .null, .null, .int 0, .null, .int 0, .null, .null, .null, .null, .null, .int 0, .null])) zq2
  rw [e1] at hI
  refine lv_dup hx hb dL_law_11 rfl ?_
  refine ur_cv (h1 := va_up (fun _ => none) q2 (some (.inr (7, [.null, .null, .null, .long 0, .null, .null, .null, .null, .int 0, .null, .int 0, .null, .null, .null, .null, .null, .int 0, .null])))) (va_runI (As := []) (rest := [.ref q2]) ⟨hx, hb, hml, hown, htsG⟩ (kF_init l D E _ q2 (va_up_self _ _ _) H.size) (cwI 0 htsG (ur_gI mw573) rfl rfl rfl (htsG _ mw11) (htsG _ mw571) (htsG _ mw572) rfl (by decide +kernel) ⟨(Nat.le_of_ble_eq_true rfl), (Nat.le_of_ble_eq_true rfl)⟩) ⟨ur_blind, ur_pre hI hO hK (fun _ _ z9 => lw_unR hdj z9)⟩ rfl rfl hl.1 rfl (lv_room (Nat.le_of_ble_eq_true rfl)) dL_law_12 ⟨Nat.le_of_ble_eq_true rfl, Nat.le_of_ble_eq_true rfl⟩) hI (fun _ _ z9 => lw_unR hdj z9) (fun hF H2 locs2 p9 ap9 hI2 => ?_)
  obtain ⟨hdj2, em9⟩ := lw_upF hdj ap9
  rw [em9] at hI2
  obtain ⟨bb, rfl, hT⟩ := p9
  refine lv_astore_n (lv' := [(2, .ref (bb 0)), (1, .ref q1), (0, .ref b)]) hx hb dL_law_15 rfl hl (by decide) rfl (fun ls hl => ?_)
  refine lv_iconst (v := 0) hx hb dL_law_16 (by decide) ?_
  refine lv_istore_n (lv' := [(3, .int 0), (2, .ref (bb 0)), (1, .ref q1), (0, .ref b)]) hx hb dL_law_17 rfl hl (by decide) rfl (fun ls hl => ?_)
  refine W.widen (k := 51 + 0) (n := 169226 + 120 * 0) (by omega) (by omega) ?_
  exact lw_loop l hx hb hml hown htsG hX hbl hbA hK hO hL hr hlocks 513 0 H2 locs2 ls (by omega) (by omega) ⟨hC, hF, um_S0, fo_T0, hCq, hT, RL.new, hdj2, hI2⟩ (lv_sub hl [3, 2, 1, 0] rfl)
