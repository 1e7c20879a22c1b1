/-- the numbers of the classes of devices -/
def um_isD (ci : Nat) : Prop := ci = 3 ∨ ci = 4 ∨ ci = 5 ∨ ci = 6
section URD
variable {p : Program} {l : Launch} {e : Env} {R : Room} {s : State} {m : MethodId} {args : Array Value} {below : List Frame} {meth : Method} {c : Code} {H : Heap} {locs : List Loc} {cells slots : Nat} {Q : State → Prop}
variable {cc : ByteArray} {pc : Nat} {ls : Array Slot} {rest st0 : List Value} {D : va_G} {A : Nat → Prop} {a : Nat} {tys : List (ClassId × FieldType)} {H0 : Heap} {h h0 : ur_M} {mc ms : Nat}
theorem ur_gD0 (hexec : p.tables.exec = Jvm.exec) (hb : c.code = cc) {own ref : String} {index ci : Nat} (hts : ∀ w ∈ ur_G, w.before args s = true) (hown : s.vm.findClass own = some m.cls) (hK : va_K D vwCl tys s) (hI : ur_I D vwCl A H0 h H locs) {v0 v1 v2 v3 v4 v5 v6 : Value} {tl : List Value} (hci : um_isD ci) (he : h a = some (.inr (ci, v0 :: v1 :: v2 :: v3 :: v4 :: v5 :: v6 :: tl))) (hlink : (Cond.fieldLink own index ref "words" "I").before args s = true) (hsame : ∀ x, s.fieldFound? "UnitRoom$Device" "words" "I" = some x → s.fieldFound? ref "words" "I" = some x) (hdg : decode cc pc = .ok (.getfield index, 3)) (kk : W p l e R s m args below meth c H locs cells slots Q (F0 m (pc + 3) ls (v0 :: rest))) : W p l e R s m args below meth c H locs cells slots Q (F0 m pc ls (.ref a :: rest)) := by
  rcases hci with rfl | rfl | rfl | rfl
  · exact va_get (D := D) (ci := 3) (v := v0) (C := "UnitRoom$Tape") (T := TT) (N := 9) hexec hb hts inT hown hK (ur_one hI.1 he) 0 rfl rfl 0 (by decide) hlink hsame rfl hdg kk
  · exact va_get (D := D) (ci := 4) (v := v0) (C := "UnitRoom$Disk") (T := TK) (N := 8) hexec hb hts inK hown hK (ur_one hI.1 he) 0 rfl rfl 0 (by decide) hlink hsame rfl hdg kk
  · exact va_get (D := D) (ci := 5) (v := v0) (C := "UnitRoom$Reader") (T := TR) (N := 10) hexec hb hts inR hown hK (ur_one hI.1 he) 0 rfl rfl 0 (by decide) hlink hsame rfl hdg kk
  · exact va_get (D := D) (ci := 6) (v := v0) (C := "UnitRoom$Writer") (T := TW) (N := 10) hexec hb hts inW hown hK (ur_one hI.1 he) 0 rfl rfl 0 (by decide) hlink hsame rfl hdg kk
theorem ur_gD1 (hexec : p.tables.exec = Jvm.exec) (hb : c.code = cc) {own ref : String} {index ci : Nat} (hts : ∀ w ∈ ur_G, w.before args s = true) (hown : s.vm.findClass own = some m.cls) (hK : va_K D vwCl tys s) (hI : ur_I D vwCl A H0 h H locs) {v0 v1 v2 v3 v4 v5 v6 : Value} {tl : List Value} (hci : um_isD ci) (he : h a = some (.inr (ci, v0 :: v1 :: v2 :: v3 :: v4 :: v5 :: v6 :: tl))) (hlink : (Cond.fieldLink own index ref "brought" "[I").before args s = true) (hsame : ∀ x, s.fieldFound? "UnitRoom$Device" "brought" "[I" = some x → s.fieldFound? ref "brought" "[I" = some x) (hdg : decode cc pc = .ok (.getfield index, 3)) (kk : W p l e R s m args below meth c H locs cells slots Q (F0 m (pc + 3) ls (v1 :: rest))) : W p l e R s m args below meth c H locs cells slots Q (F0 m pc ls (.ref a :: rest)) := by
  rcases hci with rfl | rfl | rfl | rfl
  · exact va_get (D := D) (ci := 3) (v := v1) (C := "UnitRoom$Tape") (T := TT) (N := 9) hexec hb hts inT hown hK (ur_one hI.1 he) 0 rfl rfl 1 (by decide) hlink hsame rfl hdg kk
  · exact va_get (D := D) (ci := 4) (v := v1) (C := "UnitRoom$Disk") (T := TK) (N := 8) hexec hb hts inK hown hK (ur_one hI.1 he) 0 rfl rfl 1 (by decide) hlink hsame rfl hdg kk
  · exact va_get (D := D) (ci := 5) (v := v1) (C := "UnitRoom$Reader") (T := TR) (N := 10) hexec hb hts inR hown hK (ur_one hI.1 he) 0 rfl rfl 1 (by decide) hlink hsame rfl hdg kk
  · exact va_get (D := D) (ci := 6) (v := v1) (C := "UnitRoom$Writer") (T := TW) (N := 10) hexec hb hts inW hown hK (ur_one hI.1 he) 0 rfl rfl 1 (by decide) hlink hsame rfl hdg kk
theorem ur_gD2 (hexec : p.tables.exec = Jvm.exec) (hb : c.code = cc) {own ref : String} {index ci : Nat} (hts : ∀ w ∈ ur_G, w.before args s = true) (hown : s.vm.findClass own = some m.cls) (hK : va_K D vwCl tys s) (hI : ur_I D vwCl A H0 h H locs) {v0 v1 v2 v3 v4 v5 v6 : Value} {tl : List Value} (hci : um_isD ci) (he : h a = some (.inr (ci, v0 :: v1 :: v2 :: v3 :: v4 :: v5 :: v6 :: tl))) (hlink : (Cond.fieldLink own index ref "duration" "I").before args s = true) (hsame : ∀ x, s.fieldFound? "UnitRoom$Device" "duration" "I" = some x → s.fieldFound? ref "duration" "I" = some x) (hdg : decode cc pc = .ok (.getfield index, 3)) (kk : W p l e R s m args below meth c H locs cells slots Q (F0 m (pc + 3) ls (v2 :: rest))) : W p l e R s m args below meth c H locs cells slots Q (F0 m pc ls (.ref a :: rest)) := by
  rcases hci with rfl | rfl | rfl | rfl
  · exact va_get (D := D) (ci := 3) (v := v2) (C := "UnitRoom$Tape") (T := TT) (N := 9) hexec hb hts inT hown hK (ur_one hI.1 he) 0 rfl rfl 2 (by decide) hlink hsame rfl hdg kk
  · exact va_get (D := D) (ci := 4) (v := v2) (C := "UnitRoom$Disk") (T := TK) (N := 8) hexec hb hts inK hown hK (ur_one hI.1 he) 0 rfl rfl 2 (by decide) hlink hsame rfl hdg kk
  · exact va_get (D := D) (ci := 5) (v := v2) (C := "UnitRoom$Reader") (T := TR) (N := 10) hexec hb hts inR hown hK (ur_one hI.1 he) 0 rfl rfl 2 (by decide) hlink hsame rfl hdg kk
  · exact va_get (D := D) (ci := 6) (v := v2) (C := "UnitRoom$Writer") (T := TW) (N := 10) hexec hb hts inW hown hK (ur_one hI.1 he) 0 rfl rfl 2 (by decide) hlink hsame rfl hdg kk
theorem ur_gD3 (hexec : p.tables.exec = Jvm.exec) (hb : c.code = cc) {own ref : String} {index ci : Nat} (hts : ∀ w ∈ ur_G, w.before args s = true) (hown : s.vm.findClass own = some m.cls) (hK : va_K D vwCl tys s) (hI : ur_I D vwCl A H0 h H locs) {v0 v1 v2 v3 v4 v5 v6 : Value} {tl : List Value} (hci : um_isD ci) (he : h a = some (.inr (ci, v0 :: v1 :: v2 :: v3 :: v4 :: v5 :: v6 :: tl))) (hlink : (Cond.fieldLink own index ref "freeAt" "J").before args s = true) (hsame : ∀ x, s.fieldFound? "UnitRoom$Device" "freeAt" "J" = some x → s.fieldFound? ref "freeAt" "J" = some x) (hdg : decode cc pc = .ok (.getfield index, 3)) (kk : W p l e R s m args below meth c H locs cells slots Q (F0 m (pc + 3) ls (v3 :: rest))) : W p l e R s m args below meth c H locs cells slots Q (F0 m pc ls (.ref a :: rest)) := by
  rcases hci with rfl | rfl | rfl | rfl
  · exact va_get (D := D) (ci := 3) (v := v3) (C := "UnitRoom$Tape") (T := TT) (N := 9) hexec hb hts inT hown hK (ur_one hI.1 he) 0 rfl rfl 3 (by decide) hlink hsame rfl hdg kk
  · exact va_get (D := D) (ci := 4) (v := v3) (C := "UnitRoom$Disk") (T := TK) (N := 8) hexec hb hts inK hown hK (ur_one hI.1 he) 0 rfl rfl 3 (by decide) hlink hsame rfl hdg kk
  · exact va_get (D := D) (ci := 5) (v := v3) (C := "UnitRoom$Reader") (T := TR) (N := 10) hexec hb hts inR hown hK (ur_one hI.1 he) 0 rfl rfl 3 (by decide) hlink hsame rfl hdg kk
  · exact va_get (D := D) (ci := 6) (v := v3) (C := "UnitRoom$Writer") (T := TW) (N := 10) hexec hb hts inW hown hK (ur_one hI.1 he) 0 rfl rfl 3 (by decide) hlink hsame rfl hdg kk
theorem ur_gD4 (hexec : p.tables.exec = Jvm.exec) (hb : c.code = cc) {own ref : String} {index ci : Nat} (hts : ∀ w ∈ ur_G, w.before args s = true) (hown : s.vm.findClass own = some m.cls) (hK : va_K D vwCl tys s) (hI : ur_I D vwCl A H0 h H locs) {v0 v1 v2 v3 v4 v5 v6 : Value} {tl : List Value} (hci : um_isD ci) (he : h a = some (.inr (ci, v0 :: v1 :: v2 :: v3 :: v4 :: v5 :: v6 :: tl))) (hlink : (Cond.fieldLink own index ref "bringing" "Z").before args s = true) (hsame : ∀ x, s.fieldFound? "UnitRoom$Device" "bringing" "Z" = some x → s.fieldFound? ref "bringing" "Z" = some x) (hdg : decode cc pc = .ok (.getfield index, 3)) (kk : W p l e R s m args below meth c H locs cells slots Q (F0 m (pc + 3) ls (v4 :: rest))) : W p l e R s m args below meth c H locs cells slots Q (F0 m pc ls (.ref a :: rest)) := by
  rcases hci with rfl | rfl | rfl | rfl
  · exact va_get (D := D) (ci := 3) (v := v4) (C := "UnitRoom$Tape") (T := TT) (N := 9) hexec hb hts inT hown hK (ur_one hI.1 he) 0 rfl rfl 4 (by decide) hlink hsame rfl hdg kk
  · exact va_get (D := D) (ci := 4) (v := v4) (C := "UnitRoom$Disk") (T := TK) (N := 8) hexec hb hts inK hown hK (ur_one hI.1 he) 0 rfl rfl 4 (by decide) hlink hsame rfl hdg kk
  · exact va_get (D := D) (ci := 5) (v := v4) (C := "UnitRoom$Reader") (T := TR) (N := 10) hexec hb hts inR hown hK (ur_one hI.1 he) 0 rfl rfl 4 (by decide) hlink hsame rfl hdg kk
  · exact va_get (D := D) (ci := 6) (v := v4) (C := "UnitRoom$Writer") (T := TW) (N := 10) hexec hb hts inW hown hK (ur_one hI.1 he) 0 rfl rfl 4 (by decide) hlink hsame rfl hdg kk
theorem ur_gD5 (hexec : p.tables.exec = Jvm.exec) (hb : c.code = cc) {own ref : String} {index ci : Nat} (hts : ∀ w ∈ ur_G, w.before args s = true) (hown : s.vm.findClass own = some m.cls) (hK : va_K D vwCl tys s) (hI : ur_I D vwCl A H0 h H locs) {v0 v1 v2 v3 v4 v5 v6 : Value} {tl : List Value} (hci : um_isD ci) (he : h a = some (.inr (ci, v0 :: v1 :: v2 :: v3 :: v4 :: v5 :: v6 :: tl))) (hlink : (Cond.fieldLink own index ref "turn" "I").before args s = true) (hsame : ∀ x, s.fieldFound? "UnitRoom$Device" "turn" "I" = some x → s.fieldFound? ref "turn" "I" = some x) (hdg : decode cc pc = .ok (.getfield index, 3)) (kk : W p l e R s m args below meth c H locs cells slots Q (F0 m (pc + 3) ls (v5 :: rest))) : W p l e R s m args below meth c H locs cells slots Q (F0 m pc ls (.ref a :: rest)) := by
  rcases hci with rfl | rfl | rfl | rfl
  · exact va_get (D := D) (ci := 3) (v := v5) (C := "UnitRoom$Tape") (T := TT) (N := 9) hexec hb hts inT hown hK (ur_one hI.1 he) 0 rfl rfl 5 (by decide) hlink hsame rfl hdg kk
  · exact va_get (D := D) (ci := 4) (v := v5) (C := "UnitRoom$Disk") (T := TK) (N := 8) hexec hb hts inK hown hK (ur_one hI.1 he) 0 rfl rfl 5 (by decide) hlink hsame rfl hdg kk
  · exact va_get (D := D) (ci := 5) (v := v5) (C := "UnitRoom$Reader") (T := TR) (N := 10) hexec hb hts inR hown hK (ur_one hI.1 he) 0 rfl rfl 5 (by decide) hlink hsame rfl hdg kk
  · exact va_get (D := D) (ci := 6) (v := v5) (C := "UnitRoom$Writer") (T := TW) (N := 10) hexec hb hts inW hown hK (ur_one hI.1 he) 0 rfl rfl 5 (by decide) hlink hsame rfl hdg kk
theorem ur_gD6 (hexec : p.tables.exec = Jvm.exec) (hb : c.code = cc) {own ref : String} {index ci : Nat} (hts : ∀ w ∈ ur_G, w.before args s = true) (hown : s.vm.findClass own = some m.cls) (hK : va_K D vwCl tys s) (hI : ur_I D vwCl A H0 h H locs) {v0 v1 v2 v3 v4 v5 v6 : Value} {tl : List Value} (hci : um_isD ci) (he : h a = some (.inr (ci, v0 :: v1 :: v2 :: v3 :: v4 :: v5 :: v6 :: tl))) (hlink : (Cond.fieldLink own index ref "target" "I").before args s = true) (hsame : ∀ x, s.fieldFound? "UnitRoom$Device" "target" "I" = some x → s.fieldFound? ref "target" "I" = some x) (hdg : decode cc pc = .ok (.getfield index, 3)) (kk : W p l e R s m args below meth c H locs cells slots Q (F0 m (pc + 3) ls (v6 :: rest))) : W p l e R s m args below meth c H locs cells slots Q (F0 m pc ls (.ref a :: rest)) := by
  rcases hci with rfl | rfl | rfl | rfl
  · exact va_get (D := D) (ci := 3) (v := v6) (C := "UnitRoom$Tape") (T := TT) (N := 9) hexec hb hts inT hown hK (ur_one hI.1 he) 0 rfl rfl 6 (by decide) hlink hsame rfl hdg kk
  · exact va_get (D := D) (ci := 4) (v := v6) (C := "UnitRoom$Disk") (T := TK) (N := 8) hexec hb hts inK hown hK (ur_one hI.1 he) 0 rfl rfl 6 (by decide) hlink hsame rfl hdg kk
  · exact va_get (D := D) (ci := 5) (v := v6) (C := "UnitRoom$Reader") (T := TR) (N := 10) hexec hb hts inR hown hK (ur_one hI.1 he) 0 rfl rfl 6 (by decide) hlink hsame rfl hdg kk
  · exact va_get (D := D) (ci := 6) (v := v6) (C := "UnitRoom$Writer") (T := TW) (N := 10) hexec hb hts inW hown hK (ur_one hI.1 he) 0 rfl rfl 6 (by decide) hlink hsame rfl hdg kk
theorem ur_pD3 (hexec : p.tables.exec = Jvm.exec) (hb : c.code = cc) {own ref : String} {index ci : Nat} (hts : ∀ w ∈ ur_G, w.before args s = true) (hown : s.vm.findClass own = some m.cls) (hK : va_K D vwCl tys s) (hI : ur_I D vwCl A H0 h H locs) {v0 v1 v2 v3 v4 v5 v6 v : Value} {tl : List Value} (hci : um_isD ci) (he : h a = some (.inr (ci, v0 :: v1 :: v2 :: v3 :: v4 :: v5 :: v6 :: tl))) (hlink : (Cond.fieldLink own index ref "freeAt" "J").before args s = true) (hsame : ∀ x, s.fieldFound? "UnitRoom$Device" "freeAt" "J" = some x → s.fieldFound? ref "freeAt" "J" = some x) (hn : narrow .long v = v) (hfit : fits .long v = true) (hdg : decode cc pc = .ok (.putfield index, 3)) (kk : ∀ (H1 : Heap) (locs1 : List Loc), ur_I D vwCl A H0 (va_up h a (some (.inr (ci, v0 :: v1 :: v2 :: v :: v4 :: v5 :: v6 :: tl)))) H1 locs1 → W p l e R s m args below meth c H1 locs1 cells slots Q (F0 m (pc + 3) ls rest)) : W p l e R s m args below meth c H locs cells slots Q (F0 m pc ls (v :: .ref a :: rest)) := by
  rcases hci with rfl | rfl | rfl | rfl
  · exact ur_put (D := D) (ci := 3) (v := v) (ty := .long) (C := "UnitRoom$Tape") (T := TT) (N := 9) hexec hb hts inT tyT tyT_ok nmT hown hK hI he rfl 3 (by decide) hlink hsame rfl (by decide +kernel) hn hfit (by simp only [List.length_cons]; omega) hdg (fun H1 locs1 hI1 => kk H1 locs1 hI1)
  · exact ur_put (D := D) (ci := 4) (v := v) (ty := .long) (C := "UnitRoom$Disk") (T := TK) (N := 8) hexec hb hts inK tyK tyK_ok nmK hown hK hI he rfl 3 (by decide) hlink hsame rfl (by decide +kernel) hn hfit (by simp only [List.length_cons]; omega) hdg (fun H1 locs1 hI1 => kk H1 locs1 hI1)
  · exact ur_put (D := D) (ci := 5) (v := v) (ty := .long) (C := "UnitRoom$Reader") (T := TR) (N := 10) hexec hb hts inR tyR tyR_ok nmR hown hK hI he rfl 3 (by decide) hlink hsame rfl (by decide +kernel) hn hfit (by simp only [List.length_cons]; omega) hdg (fun H1 locs1 hI1 => kk H1 locs1 hI1)
  · exact ur_put (D := D) (ci := 6) (v := v) (ty := .long) (C := "UnitRoom$Writer") (T := TW) (N := 10) hexec hb hts inW tyW tyW_ok nmW hown hK hI he rfl 3 (by decide) hlink hsame rfl (by decide +kernel) hn hfit (by simp only [List.length_cons]; omega) hdg (fun H1 locs1 hI1 => kk H1 locs1 hI1)
theorem ur_pD4 (hexec : p.tables.exec = Jvm.exec) (hb : c.code = cc) {own ref : String} {index ci : Nat} (hts : ∀ w ∈ ur_G, w.before args s = true) (hown : s.vm.findClass own = some m.cls) (hK : va_K D vwCl tys s) (hI : ur_I D vwCl A H0 h H locs) {v0 v1 v2 v3 v4 v5 v6 v : Value} {tl : List Value} (hci : um_isD ci) (he : h a = some (.inr (ci, v0 :: v1 :: v2 :: v3 :: v4 :: v5 :: v6 :: tl))) (hlink : (Cond.fieldLink own index ref "bringing" "Z").before args s = true) (hsame : ∀ x, s.fieldFound? "UnitRoom$Device" "bringing" "Z" = some x → s.fieldFound? ref "bringing" "Z" = some x) (hn : narrow .boolean v = v) (hfit : fits .boolean v = true) (hdg : decode cc pc = .ok (.putfield index, 3)) (kk : ∀ (H1 : Heap) (locs1 : List Loc), ur_I D vwCl A H0 (va_up h a (some (.inr (ci, v0 :: v1 :: v2 :: v3 :: v :: v5 :: v6 :: tl)))) H1 locs1 → W p l e R s m args below meth c H1 locs1 cells slots Q (F0 m (pc + 3) ls rest)) : W p l e R s m args below meth c H locs cells slots Q (F0 m pc ls (v :: .ref a :: rest)) := by
  rcases hci with rfl | rfl | rfl | rfl
  · exact ur_put (D := D) (ci := 3) (v := v) (ty := .boolean) (C := "UnitRoom$Tape") (T := TT) (N := 9) hexec hb hts inT tyT tyT_ok nmT hown hK hI he rfl 4 (by decide) hlink hsame rfl (by decide +kernel) hn hfit (by simp only [List.length_cons]; omega) hdg (fun H1 locs1 hI1 => kk H1 locs1 hI1)
  · exact ur_put (D := D) (ci := 4) (v := v) (ty := .boolean) (C := "UnitRoom$Disk") (T := TK) (N := 8) hexec hb hts inK tyK tyK_ok nmK hown hK hI he rfl 4 (by decide) hlink hsame rfl (by decide +kernel) hn hfit (by simp only [List.length_cons]; omega) hdg (fun H1 locs1 hI1 => kk H1 locs1 hI1)
  · exact ur_put (D := D) (ci := 5) (v := v) (ty := .boolean) (C := "UnitRoom$Reader") (T := TR) (N := 10) hexec hb hts inR tyR tyR_ok nmR hown hK hI he rfl 4 (by decide) hlink hsame rfl (by decide +kernel) hn hfit (by simp only [List.length_cons]; omega) hdg (fun H1 locs1 hI1 => kk H1 locs1 hI1)
  · exact ur_put (D := D) (ci := 6) (v := v) (ty := .boolean) (C := "UnitRoom$Writer") (T := TW) (N := 10) hexec hb hts inW tyW tyW_ok nmW hown hK hI he rfl 4 (by decide) hlink hsame rfl (by decide +kernel) hn hfit (by simp only [List.length_cons]; omega) hdg (fun H1 locs1 hI1 => kk H1 locs1 hI1)
theorem ur_pD5 (hexec : p.tables.exec = Jvm.exec) (hb : c.code = cc) {own ref : String} {index ci : Nat} (hts : ∀ w ∈ ur_G, w.before args s = true) (hown : s.vm.findClass own = some m.cls) (hK : va_K D vwCl tys s) (hI : ur_I D vwCl A H0 h H locs) {v0 v1 v2 v3 v4 v5 v6 v : Value} {tl : List Value} (hci : um_isD ci) (he : h a = some (.inr (ci, v0 :: v1 :: v2 :: v3 :: v4 :: v5 :: v6 :: tl))) (hlink : (Cond.fieldLink own index ref "turn" "I").before args s = true) (hsame : ∀ x, s.fieldFound? "UnitRoom$Device" "turn" "I" = some x → s.fieldFound? ref "turn" "I" = some x) (hn : narrow .int v = v) (hfit : fits .int v = true) (hdg : decode cc pc = .ok (.putfield index, 3)) (kk : ∀ (H1 : Heap) (locs1 : List Loc), ur_I D vwCl A H0 (va_up h a (some (.inr (ci, v0 :: v1 :: v2 :: v3 :: v4 :: v :: v6 :: tl)))) H1 locs1 → W p l e R s m args below meth c H1 locs1 cells slots Q (F0 m (pc + 3) ls rest)) : W p l e R s m args below meth c H locs cells slots Q (F0 m pc ls (v :: .ref a :: rest)) := by
  rcases hci with rfl | rfl | rfl | rfl
  · exact ur_put (D := D) (ci := 3) (v := v) (ty := .int) (C := "UnitRoom$Tape") (T := TT) (N := 9) hexec hb hts inT tyT tyT_ok nmT hown hK hI he rfl 5 (by decide) hlink hsame rfl (by decide +kernel) hn hfit (by simp only [List.length_cons]; omega) hdg (fun H1 locs1 hI1 => kk H1 locs1 hI1)
  · exact ur_put (D := D) (ci := 4) (v := v) (ty := .int) (C := "UnitRoom$Disk") (T := TK) (N := 8) hexec hb hts inK tyK tyK_ok nmK hown hK hI he rfl 5 (by decide) hlink hsame rfl (by decide +kernel) hn hfit (by simp only [List.length_cons]; omega) hdg (fun H1 locs1 hI1 => kk H1 locs1 hI1)
  · exact ur_put (D := D) (ci := 5) (v := v) (ty := .int) (C := "UnitRoom$Reader") (T := TR) (N := 10) hexec hb hts inR tyR tyR_ok nmR hown hK hI he rfl 5 (by decide) hlink hsame rfl (by decide +kernel) hn hfit (by simp only [List.length_cons]; omega) hdg (fun H1 locs1 hI1 => kk H1 locs1 hI1)
  · exact ur_put (D := D) (ci := 6) (v := v) (ty := .int) (C := "UnitRoom$Writer") (T := TW) (N := 10) hexec hb hts inW tyW tyW_ok nmW hown hK hI he rfl 5 (by decide) hlink hsame rfl (by decide +kernel) hn hfit (by simp only [List.length_cons]; omega) hdg (fun H1 locs1 hI1 => kk H1 locs1 hI1)
theorem ur_pD6 (hexec : p.tables.exec = Jvm.exec) (hb : c.code = cc) {own ref : String} {index ci : Nat} (hts : ∀ w ∈ ur_G, w.before args s = true) (hown : s.vm.findClass own = some m.cls) (hK : va_K D vwCl tys s) (hI : ur_I D vwCl A H0 h H locs) {v0 v1 v2 v3 v4 v5 v6 v : Value} {tl : List Value} (hci : um_isD ci) (he : h a = some (.inr (ci, v0 :: v1 :: v2 :: v3 :: v4 :: v5 :: v6 :: tl))) (hlink : (Cond.fieldLink own index ref "target" "I").before args s = true) (hsame : ∀ x, s.fieldFound? "UnitRoom$Device" "target" "I" = some x → s.fieldFound? ref "target" "I" = some x) (hn : narrow .int v = v) (hfit : fits .int v = true) (hdg : decode cc pc = .ok (.putfield index, 3)) (kk : ∀ (H1 : Heap) (locs1 : List Loc), ur_I D vwCl A H0 (va_up h a (some (.inr (ci, v0 :: v1 :: v2 :: v3 :: v4 :: v5 :: v :: tl)))) H1 locs1 → W p l e R s m args below meth c H1 locs1 cells slots Q (F0 m (pc + 3) ls rest)) : W p l e R s m args below meth c H locs cells slots Q (F0 m pc ls (v :: .ref a :: rest)) := by
  rcases hci with rfl | rfl | rfl | rfl
  · exact ur_put (D := D) (ci := 3) (v := v) (ty := .int) (C := "UnitRoom$Tape") (T := TT) (N := 9) hexec hb hts inT tyT tyT_ok nmT hown hK hI he rfl 6 (by decide) hlink hsame rfl (by decide +kernel) hn hfit (by simp only [List.length_cons]; omega) hdg (fun H1 locs1 hI1 => kk H1 locs1 hI1)
  · exact ur_put (D := D) (ci := 4) (v := v) (ty := .int) (C := "UnitRoom$Disk") (T := TK) (N := 8) hexec hb hts inK tyK tyK_ok nmK hown hK hI he rfl 6 (by decide) hlink hsame rfl (by decide +kernel) hn hfit (by simp only [List.length_cons]; omega) hdg (fun H1 locs1 hI1 => kk H1 locs1 hI1)
  · exact ur_put (D := D) (ci := 5) (v := v) (ty := .int) (C := "UnitRoom$Reader") (T := TR) (N := 10) hexec hb hts inR tyR tyR_ok nmR hown hK hI he rfl 6 (by decide) hlink hsame rfl (by decide +kernel) hn hfit (by simp only [List.length_cons]; omega) hdg (fun H1 locs1 hI1 => kk H1 locs1 hI1)
  · exact ur_put (D := D) (ci := 6) (v := v) (ty := .int) (C := "UnitRoom$Writer") (T := TW) (N := 10) hexec hb hts inW tyW tyW_ok nmW hown hK hI he rfl 6 (by decide) hlink hsame rfl (by decide +kernel) hn hfit (by simp only [List.length_cons]; omega) hdg (fun H1 locs1 hI1 => kk H1 locs1 hI1)
end URD
theorem dD_begin_0 : decode cD_begin 0 = .ok (.aload_n 0, 1) := by decide +kernel
theorem dD_begin_1 : decode cD_begin 1 = .ok (.lload_n 1, 1) := by decide +kernel
theorem dD_begin_2 : decode cD_begin 2 = .ok (.aload_n 0, 1) := by decide +kernel
theorem dD_begin_3 : decode cD_begin 3 = .ok (.getfield 27, 3) := by decide +kernel
theorem dD_begin_6 : decode cD_begin 6 = .ok (.i2l, 1) := by decide +kernel
theorem dD_begin_7 : decode cD_begin 7 = .ok (.ladd, 1) := by decide +kernel
theorem dD_begin_8 : decode cD_begin 8 = .ok (.putfield 7, 3) := by decide +kernel
theorem dD_begin_11 : decode cD_begin 11 = .ok (.aload_n 0, 1) := by decide +kernel
theorem dD_begin_12 : decode cD_begin 12 = .ok (.iload_n 3, 1) := by decide +kernel
theorem dD_begin_13 : decode cD_begin 13 = .ok (.putfield 17, 3) := by decide +kernel
theorem dD_begin_16 : decode cD_begin 16 = .ok (.return_, 1) := by decide +kernel
abbrev rmkD_begin : Room := { frames := 0, cells := 0, slots := 0, locals := 0 }
set_option maxHeartbeats 4000000 in
set_option maxRecDepth 100000 in
theorem kD_begin (l : Launch) (D : va_G) (E : ur_Ev) (h : ur_M) (q : Nat) (ci : Nat) (qb : Nat) (w : Int32) (du : Int32) (br : Int32) (tu : Int32) (ta : Int32) (fa : Int64) (tl : List Value) (nw : Int64) (k : Int32) (f0 : h q = some (.inr (ci, .int w :: .ref qb :: .int du :: .long fa :: .int br :: .int tu :: .int ta :: tl))) (hci : um_isD ci) : ur_Mv l yD_begin wsD_begin rmkD_begin D vwCl (ur_v E) [.ref q, .long nw, .int k] h (fun h2 => h2 = va_up h q (some (.inr (ci, .int w :: .ref qb :: .int du :: .long (nw + (du.toInt64)) :: .int br :: .int k :: .int ta :: tl)))) 0 0 := by
  intro sz
  refine ur_of (cc := cD_begin) (maxL := 4) (ret := none) (by decide) rfl (Nat.le_of_ble_eq_true rfl) ?_
  intro p e s m args below meth c ls Q hsz hx hb hml hr hlocks hnm hown hts hO hK hI hQ hl
  subst hsz
  have hV := hK.1
  have hts : ∀ w ∈ ur_G, w.before args s = true := fun w hw => hts w (List.mem_cons_of_mem _ hw)
  have hZ : ur_Z E (ur_A h s.heap.size) s s.heap := hO.1
  have hown : s.vm.findClass "UnitRoom$Device" = some m.cls := hown
  have hl : lv_has ls 4 [(0, .ref q), (1, .long nw), (3, .int k)] := hl
  refine lv_aload_n hx hb dD_begin_0 rfl (lv_at hl 0 rfl) ?_
  refine lv_lload_n hx hb dD_begin_1 rfl (lv_at hl 1 rfl) ?_
  refine lv_aload_n hx hb dD_begin_2 rfl (lv_at hl 0 rfl) ?_
  refine ur_gD2 hx hb hts hown hV hI hci f0 (hts _ mw75) (fun _ h9 => h9) dD_begin_3 ?_
  refine lv_i2l hx hb dD_begin_6 rfl ?_
  refine lv_ladd hx hb dD_begin_7 ?_
  refine ur_pD3 hx hb hts hown hV hI hci f0 (hts _ mw76) (fun _ h9 => h9) rfl rfl dD_begin_8 (fun H locs hI => ?_)
  obtain ⟨h1, eh1⟩ : ∃ z : ur_M, z = va_up h q (some (.inr (ci, .int w :: .ref qb :: .int du :: .long (nw + (du.toInt64)) :: .int br :: .int tu :: .int ta :: tl))) := ⟨_, rfl⟩
  replace hI : ur_I D vwCl (ur_A h s.heap.size) s.heap h1 H locs := by rw [eh1]; exact hI
  have q2 : h1 q = some (.inr (ci, .int w :: .ref qb :: .int du :: .long (nw + (du.toInt64)) :: .int br :: .int tu :: .int ta :: tl)) := by rw [eh1]; exact (va_up_self _ _ _)
  refine lv_aload_n hx hb dD_begin_11 rfl (lv_at hl 0 rfl) ?_
  refine lv_iload_n hx hb dD_begin_12 rfl (lv_at hl 2 rfl) ?_
  refine ur_pD5 hx hb hts hown hV hI hci q2 (hts _ mw80) (fun _ h9 => h9) rfl rfl dD_begin_13 (fun H locs hI => ?_)
  obtain ⟨h3, eh3⟩ : ∃ z : ur_M, z = va_up h1 q (some (.inr (ci, .int w :: .ref qb :: .int du :: .long (nw + (du.toInt64)) :: .int br :: .int k :: .int ta :: tl))) := ⟨_, rfl⟩
  replace hI : ur_I D vwCl (ur_A h s.heap.size) s.heap h3 H locs := by rw [eh3]; exact hI
  have q4 : h3 q = some (.inr (ci, .int w :: .ref qb :: .int du :: .long (nw + (du.toInt64)) :: .int br :: .int k :: .int ta :: tl)) := by rw [eh3]; exact (va_up_self _ _ _)
  exact ur_rv hx hb hr hlocks hI hQ (by rw [eh3, eh1, bx_uu]) dD_begin_16
theorem dD_bringTo_0 : decode cD_bringTo 0 = .ok (.aload_n 0, 1) := by decide +kernel
theorem dD_bringTo_1 : decode cD_bringTo 1 = .ok (.iload_n 1, 1) := by decide +kernel
theorem dD_bringTo_2 : decode cD_bringTo 2 = .ok (.putfield 21, 3) := by decide +kernel
theorem dD_bringTo_5 : decode cD_bringTo 5 = .ok (.aload_n 0, 1) := by decide +kernel
theorem dD_bringTo_6 : decode cD_bringTo 6 = .ok (.iconst 1, 1) := by decide +kernel
theorem dD_bringTo_7 : decode cD_bringTo 7 = .ok (.putfield 13, 3) := by decide +kernel
theorem dD_bringTo_10 : decode cD_bringTo 10 = .ok (.return_, 1) := by decide +kernel
abbrev rmkD_bringTo : Room := { frames := 0, cells := 0, slots := 0, locals := 0 }
set_option maxHeartbeats 4000000 in
set_option maxRecDepth 100000 in
theorem kD_bringTo (l : Launch) (D : va_G) (E : ur_Ev) (h : ur_M) (q : Nat) (ci : Nat) (qb : Nat) (w : Int32) (du : Int32) (br : Int32) (tu : Int32) (ta : Int32) (fa : Int64) (tl : List Value) (k : Int32) (f0 : h q = some (.inr (ci, .int w :: .ref qb :: .int du :: .long fa :: .int br :: .int tu :: .int ta :: tl))) (hci : um_isD ci) : ur_Mv l yD_bringTo wsD_bringTo rmkD_bringTo D vwCl (ur_v E) [.ref q, .int k] h (fun h2 => h2 = va_up h q (some (.inr (ci, .int w :: .ref qb :: .int du :: .long fa :: .int 1 :: .int tu :: .int k :: tl)))) 0 0 := by
  intro sz
  refine ur_of (cc := cD_bringTo) (maxL := 2) (ret := none) (by decide) rfl (Nat.le_of_ble_eq_true rfl) ?_
  intro p e s m args below meth c ls Q hsz hx hb hml hr hlocks hnm hown hts hO hK hI hQ hl
  subst hsz
  have hV := hK.1
  have hts : ∀ w ∈ ur_G, w.before args s = true := fun w hw => hts w (List.mem_cons_of_mem _ hw)
  have hZ : ur_Z E (ur_A h s.heap.size) s s.heap := hO.1
  have hown : s.vm.findClass "UnitRoom$Device" = some m.cls := hown
  have hl : lv_has ls 2 [(0, .ref q), (1, .int k)] := hl
  refine lv_aload_n hx hb dD_bringTo_0 rfl (lv_at hl 0 rfl) ?_
  refine lv_iload_n hx hb dD_bringTo_1 rfl (lv_at hl 1 rfl) ?_
  refine ur_pD6 hx hb hts hown hV hI hci f0 (hts _ mw81) (fun _ h9 => h9) rfl rfl dD_bringTo_2 (fun H locs hI => ?_)
  obtain ⟨h1, eh1⟩ : ∃ z : ur_M, z = va_up h q (some (.inr (ci, .int w :: .ref qb :: .int du :: .long fa :: .int br :: .int tu :: .int k :: tl))) := ⟨_, rfl⟩
  replace hI : ur_I D vwCl (ur_A h s.heap.size) s.heap h1 H locs := by rw [eh1]; exact hI
  have q2 : h1 q = some (.inr (ci, .int w :: .ref qb :: .int du :: .long fa :: .int br :: .int tu :: .int k :: tl)) := by rw [eh1]; exact (va_up_self _ _ _)
  refine lv_aload_n hx hb dD_bringTo_5 rfl (lv_at hl 0 rfl) ?_
  refine lv_iconst (v := 1) hx hb dD_bringTo_6 (by decide) ?_
  refine ur_pD4 hx hb hts hown hV hI hci q2 (hts _ mw78) (fun _ h9 => h9) rfl rfl dD_bringTo_7 (fun H locs hI => ?_)
  obtain ⟨h3, eh3⟩ : ∃ z : ur_M, z = va_up h1 q (some (.inr (ci, .int w :: .ref qb :: .int du :: .long fa :: .int 1 :: .int tu :: .int k :: tl))) := ⟨_, rfl⟩
  replace hI : ur_I D vwCl (ur_A h s.heap.size) s.heap h3 H locs := by rw [eh3]; exact hI
  have q4 : h3 q = some (.inr (ci, .int w :: .ref qb :: .int du :: .long fa :: .int 1 :: .int tu :: .int k :: tl)) := by rw [eh3]; exact (va_up_self _ _ _)
  exact ur_rv hx hb hr hlocks hI hQ (by rw [eh3, eh1, bx_uu]) dD_bringTo_10
theorem dD_deliver_0 : decode cD_deliver 0 = .ok (.aload_n 1, 1) := by decide +kernel
theorem dD_deliver_1 : decode cD_deliver 1 = .ok (.aload_n 0, 1) := by decide +kernel
theorem dD_deliver_2 : decode cD_deliver 2 = .ok (.getfield 36, 3) := by decide +kernel
theorem dD_deliver_5 : decode cD_deliver 5 = .ok (.aload_n 0, 1) := by decide +kernel
theorem dD_deliver_6 : decode cD_deliver 6 = .ok (.getfield 21, 3) := by decide +kernel
theorem dD_deliver_9 : decode cD_deliver 9 = .ok (.invokevirtual 40, 3) := by decide +kernel
theorem dD_deliver_12 : decode cD_deliver 12 = .ok (.aload_n 0, 1) := by decide +kernel
theorem dD_deliver_13 : decode cD_deliver 13 = .ok (.iconst 0, 1) := by decide +kernel
theorem dD_deliver_14 : decode cD_deliver 14 = .ok (.putfield 13, 3) := by decide +kernel
theorem dD_deliver_17 : decode cD_deliver 17 = .ok (.return_, 1) := by decide +kernel
abbrev rmkD_deliver : Room := { frames := 2, cells := 0, slots := 0, locals := 48 }
set_option maxHeartbeats 4000000 in
set_option maxRecDepth 100000 in
theorem kD_deliver (l : Launch) (D : va_G) (E : ur_Ev) (h : ur_M) (q : Nat) (qm : Nat) (q1 : Nat) (ci : Nat) (qb : Nat) (w : Int32) (du : Int32) (br : Int32) (tu : Int32) (ta : Int32) (fa : Int64) (tl : List Value) (g : Nat → Int32) (f : Nat → Int32) (n : Nat) (f0 : h q = some (.inr (ci, .int w :: .ref qb :: .int du :: .long fa :: .int br :: .int tu :: .int ta :: tl))) (f1 : h qb = some (.inl (E.1 0, n, .inl f))) (f2 : h qm = some (.inr (1, [.ref q1]))) (f3 : h q1 = some (.inl (E.1 0, 4000, .inl g))) (hci : um_isD ci) (hn : n ≤ 4000) (hne : q1 ≠ qb) (hqm : q ≠ qm) : ur_Mv l yD_deliver wsD_deliver rmkD_deliver D vwCl (ur_v E) [.ref q, .ref qm] h (fun h2 => h2 = va_up (va_up h q1 (some (.inl (E.1 0, 4000, .inl (um_cout g f ta n))))) q (some (.inr (ci, .int w :: .ref qb :: .int du :: .long fa :: .int 0 :: .int tu :: .int ta :: tl)))) 0 0 := by
  intro sz
  refine ur_of (cc := cD_deliver) (maxL := 2) (ret := none) (by decide) rfl (Nat.le_of_ble_eq_true rfl) ?_
  intro p e s m args below meth c ls Q hsz hx hb hml hr hlocks hnm hown hts hO hK hI hQ hl
  subst hsz
  have hV := hK.1
  have hts : ∀ w ∈ ur_G, w.before args s = true := fun w hw => hts w (List.mem_cons_of_mem _ hw)
  have hZ : ur_Z E (ur_A h s.heap.size) s s.heap := hO.1
  have hown : s.vm.findClass "UnitRoom$Device" = some m.cls := hown
  have hl : lv_has ls 2 [(0, .ref q), (1, .ref qm)] := hl
  refine lv_aload_n hx hb dD_deliver_0 rfl (lv_at hl 1 rfl) ?_
  refine lv_aload_n hx hb dD_deliver_1 rfl (lv_at hl 0 rfl) ?_
  refine ur_gD1 hx hb hts hown hV hI hci f0 (hts _ mw70) (fun _ h9 => h9) dD_deliver_2 ?_
  refine lv_aload_n hx hb dD_deliver_5 rfl (lv_at hl 0 rfl) ?_
  refine ur_gD6 hx hb hts hown hV hI hci f0 (hts _ mw81) (fun _ h9 => h9) dD_deliver_6 ?_
  refine ur_xv (va_runV (As := [.ref qb, .int ta]) (rest := []) ⟨hx, hb, hml, hown, hts⟩ (kM_co l D E h qm q1 qb g f n ta f2 f3 f1 (by first | assumption | omega | decide) (by first | assumption | omega | decide) s.heap.size) (cwV 2 hts (ur_gV mw293 mw294 mw295 mw2 mw296) rfl rfl rfl (by decide +kernel) ⟨(Nat.le_of_ble_eq_true rfl), (Nat.le_of_ble_eq_true rfl)⟩) ⟨ur_blind, va_recv hV (ur_one hI.1 f2) (ci := 1) (q0 := 0) rfl rfl, ur_pre hI hO hK (fun _ _ q => q)⟩ rfl rfl hl.1 rfl (lv_room (Nat.le_of_ble_eq_true rfl)) dD_deliver_9 ⟨Nat.le_of_ble_eq_true rfl, Nat.le_of_ble_eq_true rfl⟩) hI (fun h1 H locs p1 hI => ?_)
  have eh1 := p1
  have q2 : h1 q = some (.inr (ci, .int w :: .ref qb :: .int du :: .long fa :: .int br :: .int tu :: .int ta :: tl)) := by rw [eh1]; exact ((va_up_ne _ _ (ur_ne f0 f3 (by intro z; simp at z))).trans f0)
  have q3 : h1 qb = some (.inl (E.1 0, n, .inl f)) := by rw [eh1]; exact ((va_up_ne _ _ (Ne.symm hne)).trans f1)
  have q4 : h1 qm = some (.inr (1, [.ref q1])) := by rw [eh1]; exact ((va_up_ne _ _ (ur_ne f2 f3 (by intro z; simp at z))).trans f2)
  have q5 : h1 q1 = some (.inl (E.1 0, 4000, .inl (um_cout g f ta n))) := by rw [eh1]; exact (va_up_self _ _ _)
  refine lv_aload_n hx hb dD_deliver_12 rfl (lv_at hl 0 rfl) ?_
  refine lv_iconst (v := 0) hx hb dD_deliver_13 (by decide) ?_
  refine ur_pD4 hx hb hts hown hV hI hci q2 (hts _ mw78) (fun _ h9 => h9) rfl rfl dD_deliver_14 (fun H locs hI => ?_)
  obtain ⟨h6, eh6⟩ : ∃ z : ur_M, z = va_up h1 q (some (.inr (ci, .int w :: .ref qb :: .int du :: .long fa :: .int 0 :: .int tu :: .int ta :: tl))) := ⟨_, rfl⟩
  replace hI : ur_I D vwCl (ur_A h s.heap.size) s.heap h6 H locs := by rw [eh6]; exact hI
  have q7 : h6 q = some (.inr (ci, .int w :: .ref qb :: .int du :: .long fa :: .int 0 :: .int tu :: .int ta :: tl)) := by rw [eh6]; exact (va_up_self _ _ _)
  have q8 : h6 qb = some (.inl (E.1 0, n, .inl f)) := by rw [eh6]; exact ((va_up_ne _ _ (ur_ne q3 q2 (by intro z; simp at z))).trans q3)
  have q9 : h6 qm = some (.inr (1, [.ref q1])) := by rw [eh6]; exact ((va_up_ne _ _ (Ne.symm hqm)).trans q4)
  have q10 : h6 q1 = some (.inl (E.1 0, 4000, .inl (um_cout g f ta n))) := by rw [eh6]; exact ((va_up_ne _ _ (ur_ne q5 q2 (by intro z; simp at z))).trans q5)
  exact ur_rv hx hb hr hlocks hI hQ (by first | rfl | rw [eh6, eh1]) dD_deliver_17
def um_ahead (f : Int64) (t : Int32) (g : Int64) (u : Int32) : Bool := if lg_cmp f g < 0 then true else if lg_cmp f g = 0 then (if u ≤ t then false else true) else false
theorem dD_isDoneAheadOf_0 : decode cD_isDoneAheadOf 0 = .ok (.aload_n 0, 1) := by decide +kernel
theorem dD_isDoneAheadOf_1 : decode cD_isDoneAheadOf 1 = .ok (.getfield 7, 3) := by decide +kernel
theorem dD_isDoneAheadOf_4 : decode cD_isDoneAheadOf 4 = .ok (.aload_n 1, 1) := by decide +kernel
theorem dD_isDoneAheadOf_5 : decode cD_isDoneAheadOf 5 = .ok (.getfield 7, 3) := by decide +kernel
theorem dD_isDoneAheadOf_8 : decode cD_isDoneAheadOf 8 = .ok (.lcmp, 1) := by decide +kernel
theorem dD_isDoneAheadOf_9 : decode cD_isDoneAheadOf 9 = .ok (.ifCond .lt 26, 3) := by decide +kernel
theorem dD_isDoneAheadOf_12 : decode cD_isDoneAheadOf 12 = .ok (.aload_n 0, 1) := by decide +kernel
theorem dD_isDoneAheadOf_13 : decode cD_isDoneAheadOf 13 = .ok (.getfield 7, 3) := by decide +kernel
theorem dD_isDoneAheadOf_16 : decode cD_isDoneAheadOf 16 = .ok (.aload_n 1, 1) := by decide +kernel
theorem dD_isDoneAheadOf_17 : decode cD_isDoneAheadOf 17 = .ok (.getfield 7, 3) := by decide +kernel
theorem dD_isDoneAheadOf_20 : decode cD_isDoneAheadOf 20 = .ok (.lcmp, 1) := by decide +kernel
theorem dD_isDoneAheadOf_21 : decode cD_isDoneAheadOf 21 = .ok (.ifCond .ne 18, 3) := by decide +kernel
theorem dD_isDoneAheadOf_24 : decode cD_isDoneAheadOf 24 = .ok (.aload_n 0, 1) := by decide +kernel
theorem dD_isDoneAheadOf_25 : decode cD_isDoneAheadOf 25 = .ok (.getfield 17, 3) := by decide +kernel
theorem dD_isDoneAheadOf_28 : decode cD_isDoneAheadOf 28 = .ok (.aload_n 1, 1) := by decide +kernel
theorem dD_isDoneAheadOf_29 : decode cD_isDoneAheadOf 29 = .ok (.getfield 17, 3) := by decide +kernel
theorem dD_isDoneAheadOf_32 : decode cD_isDoneAheadOf 32 = .ok (.if_icmp .ge 7, 3) := by decide +kernel
theorem dD_isDoneAheadOf_35 : decode cD_isDoneAheadOf 35 = .ok (.iconst 1, 1) := by decide +kernel
theorem dD_isDoneAheadOf_36 : decode cD_isDoneAheadOf 36 = .ok (.goto 4, 3) := by decide +kernel
theorem dD_isDoneAheadOf_39 : decode cD_isDoneAheadOf 39 = .ok (.iconst 0, 1) := by decide +kernel
theorem dD_isDoneAheadOf_40 : decode cD_isDoneAheadOf 40 = .ok (.ireturn, 1) := by decide +kernel
abbrev rmkD_ahead : Room := { frames := 0, cells := 0, slots := 0, locals := 0 }
set_option maxHeartbeats 4000000 in
set_option maxRecDepth 100000 in
theorem kD_ahead (l : Launch) (D : va_G) (E : ur_Ev) (h : ur_M) (q : Nat) (o : Nat) (ci : Nat) (qb : Nat) (w : Int32) (du : Int32) (br : Int32) (tu : Int32) (ta : Int32) (fa : Int64) (tl : List Value) (cj : Nat) (qc : Nat) (w2 : Int32) (du2 : Int32) (br2 : Int32) (tu2 : Int32) (ta2 : Int32) (fa2 : Int64) (tl2 : List Value) (f0 : h q = some (.inr (ci, .int w :: .ref qb :: .int du :: .long fa :: .int br :: .int tu :: .int ta :: tl))) (f1 : h o = some (.inr (cj, .int w2 :: .ref qc :: .int du2 :: .long fa2 :: .int br2 :: .int tu2 :: .int ta2 :: tl2))) (hci : um_isD ci) (hcj : um_isD cj) : ur_Mi l yD_isDoneAheadOf wsD_isDoneAheadOf rmkD_ahead D vwCl (ur_v E) [.ref q, .ref o] h (fun r h2 => r = um_b (um_ahead fa tu fa2 tu2) ∧ h2 = h) 0 0 := by
  intro sz
  refine ur_of (cc := cD_isDoneAheadOf) (maxL := 2) (ret := (some .boolean)) (by decide) rfl (Nat.le_of_ble_eq_true rfl) ?_
  intro p e s m args below meth c ls Q hsz hx hb hml hr hlocks hnm hown hts hO hK hI hQ hl
  subst hsz
  have hV := hK.1
  have hts : ∀ w ∈ ur_G, w.before args s = true := fun w hw => hts w (List.mem_cons_of_mem _ hw)
  have hZ : ur_Z E (ur_A h s.heap.size) s s.heap := hO.1
  have hown : s.vm.findClass "UnitRoom$Device" = some m.cls := hown
  have hl : lv_has ls 2 [(0, .ref q), (1, .ref o)] := hl
  refine lv_aload_n hx hb dD_isDoneAheadOf_0 rfl (lv_at hl 0 rfl) ?_
  refine ur_gD3 hx hb hts hown hV hI hci f0 (hts _ mw76) (fun _ h9 => h9) dD_isDoneAheadOf_1 ?_
  refine lv_aload_n hx hb dD_isDoneAheadOf_4 rfl (lv_at hl 1 rfl) ?_
  refine ur_gD3 hx hb hts hown hV hI hcj f1 (hts _ mw76) (fun _ h9 => h9) dD_isDoneAheadOf_5 ?_
  refine W.lcmp hx hb dD_isDoneAheadOf_8 ?_
  refine lv_if_lt (tgt := 35) hx hb dD_isDoneAheadOf_9 (by decide) (fun c1 => ?_) (fun c1 => ?_)
  · refine lv_iconst (v := 1) hx hb dD_isDoneAheadOf_35 (by decide) ?_
    refine lv_goto (tgt := 40) hx hb dD_isDoneAheadOf_36 (by decide) ?_
    exact ur_rz hx hb hr hlocks hI hQ rfl ⟨(by first | (simp only [um_ahead, c1, ↓reduceIte]; done) | (simp only [um_ahead, c1, ↓reduceIte]; rfl) | rfl), rfl⟩ dD_isDoneAheadOf_40
  · refine lv_aload_n hx hb dD_isDoneAheadOf_12 rfl (lv_at hl 0 rfl) ?_
    refine ur_gD3 hx hb hts hown hV hI hci f0 (hts _ mw76) (fun _ h9 => h9) dD_isDoneAheadOf_13 ?_
    refine lv_aload_n hx hb dD_isDoneAheadOf_16 rfl (lv_at hl 1 rfl) ?_
    refine ur_gD3 hx hb hts hown hV hI hcj f1 (hts _ mw76) (fun _ h9 => h9) dD_isDoneAheadOf_17 ?_
    refine W.lcmp hx hb dD_isDoneAheadOf_20 ?_
    refine lv_if_ne (tgt := 39) hx hb dD_isDoneAheadOf_21 (by decide) (fun c2 => ?_) (fun c2 => ?_)
    · refine lv_iconst (v := 0) hx hb dD_isDoneAheadOf_39 (by decide) ?_
      exact ur_rz hx hb hr hlocks hI hQ rfl ⟨(by first | (simp only [um_ahead, c1, c2, ↓reduceIte]; done) | (simp only [um_ahead, c1, c2, ↓reduceIte]; rfl) | rfl), rfl⟩ dD_isDoneAheadOf_40
    · refine lv_aload_n hx hb dD_isDoneAheadOf_24 rfl (lv_at hl 0 rfl) ?_
      refine ur_gD5 hx hb hts hown hV hI hci f0 (hts _ mw80) (fun _ h9 => h9) dD_isDoneAheadOf_25 ?_
      refine lv_aload_n hx hb dD_isDoneAheadOf_28 rfl (lv_at hl 1 rfl) ?_
      refine ur_gD5 hx hb hts hown hV hI hcj f1 (hts _ mw80) (fun _ h9 => h9) dD_isDoneAheadOf_29 ?_
      refine lv_icmp_ge (tgt := 39) hx hb dD_isDoneAheadOf_32 (by decide) (fun c3 => ?_) (fun c3 => ?_)
      · refine lv_iconst (v := 0) hx hb dD_isDoneAheadOf_39 (by decide) ?_
        exact ur_rz hx hb hr hlocks hI hQ rfl ⟨(by first | (simp only [um_ahead, c1, c2, c3, ↓reduceIte]; done) | (simp only [um_ahead, c1, c2, c3, ↓reduceIte]; rfl) | rfl), rfl⟩ dD_isDoneAheadOf_40
      · refine lv_iconst (v := 1) hx hb dD_isDoneAheadOf_35 (by decide) ?_
        refine lv_goto (tgt := 40) hx hb dD_isDoneAheadOf_36 (by decide) ?_
        exact ur_rz hx hb hr hlocks hI hQ rfl ⟨(by first | (simp only [um_ahead, c1, c2, c3, ↓reduceIte]; done) | (simp only [um_ahead, c1, c2, c3, ↓reduceIte]; rfl) | rfl), rfl⟩ dD_isDoneAheadOf_40
