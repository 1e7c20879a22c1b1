/-! what an operation does -/
def um_posN (p : Nat) (m : Int32) : Nat := (um_posT (nI p) m).toNatClampNeg
def um_wT (T : um_S) (d : Nat) (op m : Int32) : um_S := if op = 0 then um_sA T d 2 (um_posN (T.1 d 2) m) else if op = 1 then um_sA (um_sA (um_sA (um_sF T d 1 (um_bring (fun b => T.2 d (3 + b)) (nI (T.1 d 2)) (T.2 d 1) 100)) d 0 1) d 5 m.toNatClampNeg) d 2 (T.1 d 2 + 1) else um_sA (um_sF T d (3 + T.1 d 2) (um_cin (T.2 20 2) (T.2 d (3 + T.1 d 2)) m 100)) d 2 (T.1 d 2 + 1)
def um_wK (T : um_S) (d : Nat) (op m x : Int32) : um_S := if op = 0 then T else if op = 1 then um_sA (um_sA (um_sF T d 1 (um_bring (fun b => T.2 d (3 + b)) x (T.2 d 1) 100)) d 0 1) d 5 m.toNatClampNeg else um_sF T d (3 + x.toNatClampNeg) (um_cin (T.2 20 2) (T.2 d (3 + x.toNatClampNeg)) m 100)
def um_wR (T : um_S) (d : Nat) (m : Int32) : um_S := um_sA (um_sA (um_sA (um_sA (um_sF T d 1 (um_rd (T.2 d 2) (T.2 d 1) (T.1 d 2 * 16) 16)) d 0 1) d 5 m.toNatClampNeg) d 2 ((T.1 d 2 + 1) % 100)) d 3 (T.1 d 3 - 1)
def um_wW (T : um_S) (d : Nat) (op m : Int32) : um_S := if T.1 d 2 = 300 then T else if op = 0 then um_sA (um_sA (um_sF T d (3 + T.1 d 2) um_ff) d (6 + T.1 d 2) 1) d 2 (T.1 d 2 + 1) else um_sA (um_sA (um_sF T d (3 + T.1 d 2) (um_line (T.2 20 2) m (um_len (T.2 20 2) m (um_words d * 5)))) d (6 + T.1 d 2) (um_len (T.2 20 2) m (um_words d * 5))) d 2 (T.1 d 2 + 1)
def um_wk (T : um_S) (d : Nat) (op m x : Int32) : um_S := if um_kind d = 0 then um_wT T d op m else if um_kind d = 1 then um_wK T d op m x else if um_kind d = 2 then um_wR T d m else um_wW T d op m
def um_bgn (S : um_S) (d : Nat) : um_S := um_sA (um_sA (um_sA (um_goTo S (max (S.1 20 2) (S.1 d 4))) 20 0 (S.1 20 0 + 1)) d 4 (max (S.1 20 2) (S.1 d 4) + um_dur d)) d 1 (S.1 20 0 + 1)
def um_opr (S : um_S) (u op m x : Int32) : Int32 := match um_un u with
  | none => um_fltN op m
  | some d => um_flt S d op m x
def um_opS (S : um_S) (u op m x : Int32) : um_S := match um_un u with
  | none => S
  | some d => if um_flt S d op m x = 0 then um_wk (um_bgn S d) d op m x else S
/-- of a writer those rows are there that it has written -/
def um_A (a : um_Ad) (S : um_S) : Prop := ∀ d b, um_kind d = 3 → a.2 d b = true → b < S.1 d 2
theorem um_A_same {a a' : um_Ad} {S S' : um_S} (hA : um_A a S) (h2 : ∀ p q, um_kind p = 3 → a'.2 p q = a.2 p q) (hS : ∀ p, um_kind p = 3 → S'.1 p 2 = S.1 p 2) : um_A a' S' := fun d b hk hb => by
  rw [h2 d b hk] at hb
  rw [hS d hk]
  exact hA d b hk hb
theorem um_nn {m : Int32} (h : ¬ m < 0) : nI m.toNatClampNeg = m := by
  obtain ⟨j, hj, rfl⟩ := nI_of h
  rw [nI_clamp hj]
theorem um_pos_e {p : Nat} (hp : p ≤ 64) (m : Int32) : um_posT (nI p) m = nI (um_posN p m) ∧ um_posN p m ≤ 64 := by
  unfold um_posN um_posT um_pos
  by_cases h0 : m = 0
  · rw [if_pos h0]; exact ⟨rfl, by decide⟩
  · rw [if_neg h0]
    generalize (nI p).toInt64 + m.toInt64 = s
    by_cases h1 : s < 64
    · rw [if_pos h1]
      by_cases h2 : s < 0
      · rw [if_pos h2]; exact ⟨rfl, by decide⟩
      · rw [if_neg h2]
        obtain ⟨k, hk, rfl⟩ := pk_lOf h2
        have hk64 : k < 64 := (pk_lLT (b := 64) hk (by decide)).mp h1
        rw [lN_i, nI_clamp (by omega)]
        exact ⟨rfl, by omega⟩
    · rw [if_neg h1, if_neg (by decide)]; exact ⟨rfl, by decide⟩
section UMK
variable {E : ur_Ev} {a : um_Ad} {T : um_S} {h h2 h3 : ur_M} {d : Nat} {m x : Int32}
theorem um_R.T0 (hR : um_R E a T h) (hk : um_kind d = 0) (hp : T.1 d 2 ≤ 64) (e : h2 = va_up h (a.1 d 0) (some (.inr (3, [.int 100, .ref (a.1 d 1), .int (nI (um_dur d)), .long (lN (T.1 d 4)), .int (nI (T.1 d 0)), .int (nI (T.1 d 1)), .int (nI (T.1 d 5)), .int (um_posT (nI (T.1 d 2)) m), .ref (a.1 d 2)])))) : um_R E a (um_wk T d 0 m x) h2 := by
  unfold um_wk um_wT
  rw [if_pos hk, if_pos rfl, e]
  refine hR.obj (by omega) (fun p q n => um_sA_n T (fun z => n ⟨z.1, by omega⟩)) rfl (fun q => by omega) ?_
  rw [um_devT hk, (um_pos_e hp m).1]
  simp [um_sA]
theorem um_R.T1 (hR : um_R E a T h) (hk : um_kind d = 0) (hm : nI m.toNatClampNeg = m) (e : h2 = va_up (va_up h (a.1 d 1) (some (.inl (E.1 0, 100, .inl (um_bring (fun b => T.2 d (3 + b)) (nI (T.1 d 2)) (T.2 d 1) 100))))) (a.1 d 0) (some (.inr (3, [.int 100, .ref (a.1 d 1), .int (nI (um_dur d)), .long (lN (T.1 d 4)), .int 1, .int (nI (T.1 d 1)), .int m, .int (nI (T.1 d 2) + 1), .ref (a.1 d 2)])))) : um_R E a (um_wk T d 1 m x) h2 := by
  unfold um_wk um_wT
  rw [if_pos hk, if_neg (by decide), if_pos rfl, e]
  have hF := um_R.arr (f := um_bring (fun b => T.2 d (3 + b)) (nI (T.1 d 2)) (T.2 d 1) 100) hR (Or.inl (by decide)) (um_ct_br (d := d) (by omega)) (e := .inl (E.1 0, 100, .inl (um_bring (fun b => T.2 d (3 + b)) (nI (T.1 d 2)) (T.2 d 1) 100))) (by rw [um_ct_br (by omega), um_sF_1, (um_kd d (um_k20' (by omega))).1 hk])
  refine um_R.obj (d := d) hF (by omega) (fun p q n => ?_) ?_ (fun q => by omega) ?_
  · rw [um_sA_n _ (fun z => n ⟨z.1, by omega⟩), um_sA_n _ (fun z => n ⟨z.1, by omega⟩), um_sA_n _ (fun z => n ⟨z.1, by omega⟩)]
  · rfl
  · rw [um_devT hk]
    simp [um_sA, um_sF, hm, nI_succ]
    rfl
theorem um_wrote.R (hR : um_R E a T h) (hk : um_kind d ≤ 1) {b : Nat} {r : Nat → Int32} (hw : um_wrote E h (a.1 d 2) (um_rows a d) b r h3) : ∃ a' : um_Ad, (∀ p q, q < 3 → a'.1 p q = a.1 p q) ∧ (∀ p q, um_kind p = 3 → a'.2 p q = a.2 p q) ∧ um_R E a' (um_sF T d (3 + b) r) h3 := by
  rcases hw with ⟨y, hy, rfl⟩ | ⟨hy, y, hz, rfl⟩
  · obtain ⟨h1, rfl⟩ := um_rows_some hy
    exact ⟨a, fun _ _ _ => rfl, fun _ _ _ => rfl, hR.rowput hk h1 r⟩
  · refine ⟨um_aw a d b y, fun p q hq => um_aw_1 (by omega), fun p q hp => um_aw_2 (fun z => by rw [z.1] at hp; omega), ?_⟩
    have q := um_R.row (S' := um_sF T d (3 + b) r) hR (by omega) hz (um_rows_none hy) (fun _ _ _ => rfl) (fun p q n => um_sF_n T n)
    have e1 : um_row E (um_sF T d (3 + b) r) d b = .inl (E.1 0, 100, .inl r) := by
      unfold um_row
      rw [if_neg (by omega), um_sF_1]
    have e2 : um_two E (um_aw a d b y) (um_sF T d (3 + b) r) d = .inl (E.1 3, 64, .inr (.inr (.inr (.inr (va_up (um_rows a d) b (some y)))))) := by
      rw [um_twoB hk, um_aw_rows]
    rw [e1, e2] at q
    exact q
theorem um_R.T2 (hR : um_R E a T h) (hk : um_kind d = 0) (hp : T.1 d 2 < 64) (hw : um_wrote E h (a.1 d 2) (um_rows a d) (nI (T.1 d 2)).toNatClampNeg (um_cin (T.2 20 2) (T.2 d (3 + (nI (T.1 d 2)).toNatClampNeg)) m 100) h3) (e : h2 = va_up h3 (a.1 d 0) (some (.inr (3, [.int 100, .ref (a.1 d 1), .int (nI (um_dur d)), .long (lN (T.1 d 4)), .int (nI (T.1 d 0)), .int (nI (T.1 d 1)), .int (nI (T.1 d 5)), .int (nI (T.1 d 2) + 1), .ref (a.1 d 2)])))) : ∃ a' : um_Ad, a'.1 20 0 = a.1 20 0 ∧ (∀ p q, um_kind p = 3 → a'.2 p q = a.2 p q) ∧ um_R E a' (um_wk T d 2 m x) h2 := by
  rw [nI_clamp (by omega)] at hw
  obtain ⟨a', ha, ha2, h9⟩ := um_wrote.R hR (by omega) hw
  refine ⟨a', ha 20 0 (by decide), ha2, ?_⟩
  unfold um_wk um_wT
  rw [if_pos hk, if_neg (by decide), if_neg (by decide), e, ← ha d 0 (by decide)]
  refine h9.obj (by omega) (fun p q n => um_sA_n _ (fun z => n ⟨z.1, by omega⟩)) rfl (fun q => by omega) ?_
  rw [um_devT hk, ha d 1 (by decide), ha d 2 (by decide)]
  simp [um_sA, um_sF, nI_succ]
theorem um_R.K1 (hR : um_R E a T h) (hk : um_kind d = 1) (hm : nI m.toNatClampNeg = m) (e : h2 = va_up (va_up h (a.1 d 1) (some (.inl (E.1 0, 100, .inl (um_bring (fun b => T.2 d (3 + b)) x (T.2 d 1) 100))))) (a.1 d 0) (some (.inr (4, [.int 100, .ref (a.1 d 1), .int (nI (um_dur d)), .long (lN (T.1 d 4)), .int 1, .int (nI (T.1 d 1)), .int m, .ref (a.1 d 2)])))) : um_R E a (um_wk T d 1 m x) h2 := by
  unfold um_wk um_wK
  rw [if_neg (show ¬ um_kind d = 0 by omega), if_pos hk, if_neg (by decide), if_pos rfl, e]
  have hF := um_R.arr (f := um_bring (fun b => T.2 d (3 + b)) x (T.2 d 1) 100) hR (Or.inl (by decide)) (um_ct_br (d := d) (by omega)) (e := .inl (E.1 0, 100, .inl (um_bring (fun b => T.2 d (3 + b)) x (T.2 d 1) 100))) (by rw [um_ct_br (by omega), um_sF_1, (um_kd d (um_k20' (by omega))).2.1 hk])
  refine um_R.obj (d := d) hF (by omega) (fun p q n => ?_) ?_ (fun q => by omega) ?_
  · rw [um_sA_n _ (fun z => n ⟨z.1, by omega⟩), um_sA_n _ (fun z => n ⟨z.1, by omega⟩)]
  · rfl
  · rw [um_devK hk]
    simp [um_sA, um_sF, hm]
    rfl
theorem um_R.K2 (hR : um_R E a T h) (hk : um_kind d = 1) (hw : um_wrote E h (a.1 d 2) (um_rows a d) x.toNatClampNeg (um_cin (T.2 20 2) (T.2 d (3 + x.toNatClampNeg)) m 100) h2) : ∃ a' : um_Ad, a'.1 20 0 = a.1 20 0 ∧ (∀ p q, um_kind p = 3 → a'.2 p q = a.2 p q) ∧ um_R E a' (um_wk T d 2 m x) h2 := by
  obtain ⟨a', ha, ha2, h9⟩ := um_wrote.R hR (by omega) hw
  refine ⟨a', ha 20 0 (by decide), ha2, ?_⟩
  unfold um_wk um_wK
  rw [if_neg (show ¬ um_kind d = 0 by omega), if_pos hk, if_neg (by decide), if_neg (by decide)]
  exact h9
theorem um_R.R1 (hR : um_R E a T h) (hk : um_kind d = 2) {op : Int32} (hm : nI m.toNatClampNeg = m) (e : h2 = va_up (va_up h (a.1 d 1) (some (.inl (E.1 0, 16, .inl (um_rd (T.2 d 2) (T.2 d 1) (T.1 d 2 * 16) 16))))) (a.1 d 0) (some (.inr (5, [.int 16, .ref (a.1 d 1), .int (nI (um_dur d)), .long (lN (T.1 d 4)), .int 1, .int (nI (T.1 d 1)), .int m, .ref (a.1 d 2), .int (nI ((T.1 d 2 + 1) % 100)), .int (nI (T.1 d 3 - 1))])))) : um_R E a (um_wk T d op m x) h2 := by
  unfold um_wk um_wR
  rw [if_neg (show ¬ um_kind d = 0 by omega), if_neg (show ¬ um_kind d = 1 by omega), if_pos hk, e]
  have hF := um_R.arr (f := um_rd (T.2 d 2) (T.2 d 1) (T.1 d 2 * 16) 16) hR (Or.inl (by decide)) (um_ct_br (d := d) (by omega)) (e := .inl (E.1 0, 16, .inl (um_rd (T.2 d 2) (T.2 d 1) (T.1 d 2 * 16) 16))) (by rw [um_ct_br (by omega), um_sF_1, show um_words d = 16 by rw [(um_kd d (um_k20' (by omega))).2.2.1 hk]; rfl])
  refine um_R.obj (d := d) hF (by omega) (fun p q n => ?_) ?_ (fun q => by omega) ?_
  · rw [um_sA_n _ (fun z => n ⟨z.1, by omega⟩), um_sA_n _ (fun z => n ⟨z.1, by omega⟩), um_sA_n _ (fun z => n ⟨z.1, by omega⟩), um_sA_n _ (fun z => n ⟨z.1, by omega⟩)]
  · rfl
  · rw [um_devR hk]
    simp [um_sA, um_sF, hm]
    rfl
/-- a line more -/
theorem um_R.line (hR : um_R E a T h) (hk : um_kind d = 3) {y n : Nat} {r : Nat → Int32} (hy : h y = none) (hA : um_A a T) (hn : n ≤ 120) (e : h2 = va_up (va_up (va_up h y (some (.inl (E.1 1, n, .inl r)))) (a.1 d 2) (some (.inl (E.1 4, 300, .inr (.inr (.inr (.inr (va_up (um_rows a d) (T.1 d 2) (some y))))))))) (a.1 d 0) (some (.inr (6, [.int (nI (um_words d)), .ref (a.1 d 1), .int (nI (um_dur d)), .long (lN (T.1 d 4)), .int (nI (T.1 d 0)), .int (nI (T.1 d 1)), .int (nI (T.1 d 5)), .ref (a.1 d 2), .int (if d = 18 then 1 else 0), .int (nI (T.1 d 2 + 1))])))) : ∃ a' : um_Ad, a'.1 20 0 = a.1 20 0 ∧ um_A a' (um_sA (um_sA (um_sF T d (3 + T.1 d 2) r) d (6 + T.1 d 2) n) d 2 (T.1 d 2 + 1)) ∧ um_R E a' (um_sA (um_sA (um_sF T d (3 + T.1 d 2) r) d (6 + T.1 d 2) n) d 2 (T.1 d 2 + 1)) h2 := by
  refine ⟨um_aw a d (T.1 d 2) y, um_aw_1 (by omega), fun p b hp hb => ?_, ?_⟩
  · by_cases z : p = d
    · subst z
      rw [um_sA_1]
      by_cases zb : b = T.1 p 2
      · omega
      · rw [um_aw_2 (fun w => zb w.2)] at hb
        exact Nat.lt_succ_of_lt (hA p b hp hb)
    · rw [um_aw_2 (fun w => z w.1)] at hb
      rw [um_sA_n _ (fun w => z w.1), um_sA_n _ (fun w => z w.1)]
      exact hA p b hp hb
  have q := um_R.row (S' := um_sA (um_sF T d (3 + T.1 d 2) r) d (6 + T.1 d 2) n) hR (Or.inr (Or.inr hk)) hy (Bool.eq_false_iff.mpr (fun z => Nat.lt_irrefl _ (hA d _ hk z))) (fun p q z => um_sA_n _ z) (fun p q z => um_sF_n T z)
  have e1 : um_row E (um_sA (um_sF T d (3 + T.1 d 2) r) d (6 + T.1 d 2) n) d (T.1 d 2) = .inl (E.1 1, n, .inl r) := by
    unfold um_row
    rw [if_pos hk, um_sA_1]
    show Sum.inl (E.1 1, n, Sum.inl ((um_sF T d (3 + T.1 d 2) r).2 d (3 + T.1 d 2))) = _
    rw [um_sF_1]
  have e2 : um_two E (um_aw a d (T.1 d 2) y) (um_sA (um_sF T d (3 + T.1 d 2) r) d (6 + T.1 d 2) n) d = .inl (E.1 4, 300, .inr (.inr (.inr (.inr (va_up (um_rows a d) (T.1 d 2) (some y)))))) := by
    rw [um_twoW hk, um_aw_rows]
  rw [e1, e2] at q
  have e3 : (um_aw a d (T.1 d 2) y).1 d 0 = a.1 d 0 := um_aw_1 (by omega)
  rw [e, ← e3]
  refine q.obj (by omega) (fun p q n => um_sA_n _ (fun z => n ⟨z.1, by omega⟩)) rfl (fun _ b hb => ?_) ?_
  · rw [um_sA_1] at hb
    rw [um_sA_n _ (show ¬ (d = d ∧ 6 + b = 2) by omega)]
    by_cases z : b = T.1 d 2
    · rw [z, um_aw_t, um_sA_1]; exact ⟨rfl, hn⟩
    · obtain ⟨r1, r2⟩ := hR.2.2.2 d b hk (by omega)
      rw [um_aw_2 (fun y => z y.2), um_sA_n _ (show ¬ (d = d ∧ 6 + b = 6 + T.1 d 2) by omega)]
      exact ⟨r1, r2⟩
  · rw [um_devW hk, um_aw_1 (show ¬ (d = d ∧ 1 = 3 + T.1 d 2) by omega), um_aw_1 (show ¬ (d = d ∧ 2 = 3 + T.1 d 2) by omega)]
    simp [um_sA, um_sF]
    exact ⟨by rw [if_neg (by omega)], by rw [if_neg (by omega)], by rw [if_neg (by omega)], by rw [if_neg (by omega)]⟩
end UMK
