/-! the reference: a store into an array of truth values; a card is read -/
section URZ
variable {p : Program} {l : Launch} {e : Env} {R : Room} {s : State} {m : MethodId} {args : Array Value} {below : List Frame} {meth : Method} {c : Code} {H : Heap} {locs : List Loc} {cells slots : Nat} {Q : State → Prop}
variable {cc : ByteArray} {pc : Nat} {ls : Array Slot} {rest : List Value} {D : va_G} {cl : List vw_C} {A : Nat → Prop} {a : Nat} {tys : List (ClassId × FieldType)} {H0 : Heap} {h : ur_M}
theorem ur_zast (hexec : p.tables.exec = Jvm.exec) (hb : c.code = cc) (hK : va_K D cl tys s) (hI : ur_I D cl A H0 h H locs) (t0 : Nat) {cA : ClassId} {n : Nat} {f : Nat → Int32} (ha : h a = some (.inl (cA, n, .inl f))) (ht : tys[t0]? = some (cA, .boolean)) {i : Int32} {x : Int32} (hin : vp_in i n) (hdg : decode cc pc = .ok (.bastore, 1))
    (kk : ∀ (H1 : Heap) (locs1 : List Loc), ur_I D cl A H0 (va_up h a (some (.inl (cA, n, .inl (upd f i.toNatClampNeg (vp_nar .boolean x)))))) H1 locs1 → W p l e R s m args below meth c H1 locs1 cells slots Q (F0 m (pc + 1) ls rest)) : W p l e R s m args below meth c H locs cells slots Q (F0 m pc ls (.int x :: .int i :: .ref a :: rest)) := by
  refine W.zast hexec hb (hI.1 _ _ ha) ((hK.2 t0 _ ht).1 n (fun j => .int (f j))) (fun q => by cases q) (by show ¬ (i < 0 ∨ (arrV _ _ _).slots.size ≤ _); rw [arrV_size]; exact hin) rfl rfl hdg fun H1 e z oq => ?_
  refine kk H1 _ (hI.put ha z oq ?_)
  show H1[a]? = some (vp_cell _ _)
  rw [e, vp_cell_i, vp_cell_i, arrV_store]
  congr 2
  funext q
  by_cases hq : q = i.toNatClampNeg
  · subst hq
    simp [updV, upd, vp_nar]
    try rfl
  · simp [updV, upd, hq]
end URZ
/-- a word of a card: five letters from place r on -/
def fo_cw (al cb : Nat → Int32) (r : Nat) : Int32 := 64 * (64 * (64 * (64 * (64 * 0 + fo_cd al (fo_gr (cb r)) 56) + fo_cd al (fo_gr (cb (r + 1))) 56) + fo_cd al (fo_gr (cb (r + 2))) 56) + fo_cd al (fo_gr (cb (r + 3))) 56) + fo_cd al (fo_gr (cb (r + 4))) 56
def fo_rb (br al cb : Nat → Int32) : Nat → Nat → Int32
  | 0 => br
  | w + 1 => upd (fo_rb br al cb w) (600 + w) (fo_cw al cb (5 * w))
def fo_sh (cb : Nat → Int32) (k : Nat) : Nat → Int32 := fun j => if j < k then cb (j + 80) else cb j
theorem fo_sh_0 (cb : Nat → Int32) : fo_sh cb 0 = cb := by
  funext j
  unfold fo_sh
  rw [if_neg (by omega)]
theorem fo_sh_succ (cb : Nat → Int32) (k : Nat) : upd (fo_sh cb k) k (fo_sh cb k (k + 80)) = fo_sh cb (k + 1) := by
  funext j
  unfold upd fo_sh
  by_cases h : j = k
  · subst h
    rw [if_pos rfl, if_neg (by omega), if_pos (by omega)]
  · rw [if_neg h]
    by_cases h2 : j < k
    · rw [if_pos h2, if_pos (by omega)]
    · rw [if_neg h2, if_neg (by omega)]
theorem fo_5 {w c : Nat} : 5 * nI w + nI c = nI (5 * w + c) := by rw [show (5 : Int32) = nI 5 from rfl, pk_mul, nI_add]
