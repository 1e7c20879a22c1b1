/-! the words of a callee are among all words -/
theorem ur_gI {y : MethodName} {b : ByteArray} {n : Nat} {r : Option FieldType} (h : Cond.code y b n r ∈ ur_G) : GoodIn ur_G (Cond.code y b n r :: ur_G) := ur_good (fun w hw => by
  rcases List.mem_cons.mp hw with q | q
  · rw [q]; exact h
  · exact q)
theorem ur_gV {own C : String} {idx : Nat} {y : MethodName} {b : ByteArray} {n : Nat} {r : Option FieldType} (h1 : Cond.methodLink own idx y ∈ ur_G) (h2 : Cond.instanceMethod y ∈ ur_G) (h3 : Cond.selects C y y ∈ ur_G) (h4 : Cond.initialized C ∈ ur_G) (h5 : Cond.code y b n r ∈ ur_G) : GoodIn ur_G (wsV own idx C y (Cond.code y b n r :: ur_G)) := ur_good (fun w hw => by
  rcases List.mem_append.mp hw with q | q
  · simp only [List.mem_cons, List.not_mem_nil, or_false] at q
    rcases q with q | q | q | q
    · rw [q]; exact h1
    · rw [q]; exact h2
    · rw [q]; exact h3
    · rw [q]; exact h4
  · rcases List.mem_cons.mp q with q | q
    · rw [q]; exact h5
    · exact q)
theorem ur_gS {own : String} {idx : Nat} {y : MethodName} {b : ByteArray} {n : Nat} {r : Option FieldType} (h1 : Cond.methodLink own idx y ∈ ur_G) (h2 : Cond.static y ∈ ur_G) (h4 : Cond.initialized own ∈ ur_G) (h5 : Cond.code y b n r ∈ ur_G) : GoodIn ur_G (wsS own idx y (Cond.code y b n r :: ur_G)) := ur_good (fun w hw => by
  rcases List.mem_append.mp hw with q | q
  · simp only [List.mem_cons, List.not_mem_nil, or_false] at q
    rcases q with q | q | q
    · rw [q]; exact h1
    · rw [q]; exact h2
    · rw [q]; exact h4
  · rcases List.mem_cons.mp q with q | q
    · rw [q]; exact h5
    · exact q)
theorem ur_gU {own C owner : String} {idx : Nat} {x y : MethodName} {b : ByteArray} {n : Nat} {r : Option FieldType} (h1 : Cond.methodLink own idx x ∈ ur_G) (h2 : Cond.sameMethod x.cls owner x.name x.desc ∈ ur_G) (h3 : Cond.selects C x y ∈ ur_G) (h4 : Cond.instanceMethod y ∈ ur_G) (h6 : Cond.initialized y.cls ∈ ur_G) (h5 : Cond.code y b n r ∈ ur_G) : GoodIn ur_G (va_wsU own idx C owner x y (Cond.code y b n r :: ur_G)) := ur_good (fun w hw => by
  rcases List.mem_append.mp hw with q | q
  · simp only [List.mem_cons, List.not_mem_nil, or_false] at q
    rcases q with q | q | q | q | q
    · rw [q]; exact h1
    · rw [q]; exact h2
    · rw [q]; exact h3
    · rw [q]; exact h4
    · rw [q]; exact h6
  · rcases List.mem_cons.mp q with q | q
    · rw [q]; exact h5
    · exact q)
theorem ur_gT {own : String} {idx : Nat} {y : MethodName} {b : ByteArray} {n : Nat} {r : Option FieldType} (h1 : Cond.methodLink own idx y ∈ ur_G) (h2 : Cond.static y ∈ ur_G) (h4 : Cond.initialized y.cls ∈ ur_G) (h5 : Cond.code y b n r ∈ ur_G) : GoodIn ur_G (va_wsS own idx y (Cond.code y b n r :: ur_G)) := ur_good (fun w hw => by
  rcases List.mem_append.mp hw with q | q
  · simp only [List.mem_cons, List.not_mem_nil, or_false] at q
    rcases q with q | q | q
    · rw [q]; exact h1
    · rw [q]; exact h2
    · rw [q]; exact h4
  · rcases List.mem_cons.mp q with q | q
    · rw [q]; exact h5
    · exact q)
theorem ur_recS {E : ur_Ev} {A : Nat → Prop} {s : State} {H : Heap} {locs : List Loc} (h : ur_Z E A s s.heap) (hS : va_S A s.heap H locs) : ∃ cell : Cell, H[E.2.1]? = some cell ∧ cell.vm.isStatics = false ∧ s.vm.findClass "java/lang/String" = some cell.cls := by
  obtain ⟨cell, h1, h2, h3, -⟩ := h.1.kept hS.2.1
  exact ⟨cell, h1, h2, h3⟩
