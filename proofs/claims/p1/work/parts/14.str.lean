def rt_Str (q v N : Nat) (f : Nat → Int32) (A : Nat → Prop) (U : State) (H : Heap) : Prop := va_O "java/lang/String" q A U H ∧ va_OF "java/lang/String" "coder" "B" (.int 0) q A U H ∧ va_OF "java/lang/String" "value" "[B" (.ref v) q A U H ∧ va_T .byte v N (fun j => .int (f j)) A U H ∧ va_Z "java/lang/String" "COMPACT_STRINGS" "Z" (.int 1) A U H ∧ va_Zq "jdk/internal/util/Preconditions" "SIOOBE_FORMATTER" "Ljava/util/function/BiFunction;" A U H
theorem rt_Str.give {q v N : Nat} {f : Nat → Int32} {A B : Nat → Prop} {s U : State} {H : Heap} {locs : List Loc} (h : rt_Str q v N f A s s.heap) (hS : va_S A s.heap H locs) (hAB : ∀ q, B q → A q) (hU : U.heap = H) (hvm : s.vm.Alike U.vm) : rt_Str q v N f B U U.heap := by
  rw [hU]
  obtain ⟨h1, h2, h3, h4, h5, h6⟩ := h
  exact ⟨((h1.kept hS.2.1).narrow hAB).moved hvm, ((h2.kept hS.2.1).narrow hAB).moved hvm, ((h3.kept hS.2.1).narrow hAB).moved hvm, ((h4.kept hS.2.1).narrow hAB).moved hvm, ((h5.kept hS.2.1).narrow hAB).moved hvm, ((h6.kept hS.2.1).narrow hAB).moved hvm⟩
theorem rt_Str.same {q v N : Nat} {f : Nat → Int32} {A : Nat → Prop} {U : State} {g : JFrame} {mk : MethodId} {a : Array Value} (h : rt_Str q v N f A U U.heap) : rt_Str q v N f A (U.calling g mk a) (U.calling g mk a).heap := by
  obtain ⟨h1, h2, h3, h4, h5, h6⟩ := h
  exact ⟨va_O.moved (u := U) (Vm.Alike.refl U.vm) h1, va_OF.moved (u := U) (Vm.Alike.refl U.vm) h2, va_OF.moved (u := U) (Vm.Alike.refl U.vm) h3, va_T.moved (u := U) (Vm.Alike.refl U.vm) h4, va_Z.moved (u := U) (Vm.Alike.refl U.vm) h5, va_Zq.moved (u := U) (Vm.Alike.refl U.vm) h6⟩
theorem rt_recv {E : String} {t : Nat} {A : Nat → Prop} {s : State} {H : Heap} {locs : List Loc} (h : va_O E t A s s.heap) (hS : va_S A s.heap H locs) : ∃ cell : Cell, H[t]? = some cell ∧ cell.vm.isStatics = false ∧ s.vm.findClass E = some cell.cls := by
  obtain ⟨cell, h1, h2, h3, -⟩ := h.kept hS.2.1
  exact ⟨cell, h1, h2, h3⟩
theorem va_ldcwS {p : Program} {l : Launch} {e : Env} {R : Room} {s : State} {m : MethodId} {args : Array Value} {below : List Frame} {meth : Method} {c : Code} {H : Heap} {locs : List Loc} {cells slots : Nat} {Q : State → Prop} {cc : ByteArray} {pc : Nat} {ls : Array Slot} {rest : List Value} (hexec : p.tables.exec = Jvm.exec) (hb : c.code = cc) {own tx : String} {index q : Nat} (hown : s.vm.findClass own = some m.cls) (hZ : vk_R own index tx q s) (hdg : decode cc pc = .ok (.ldc_w index, 3))
    (k : W p l e R s m args below meth c H locs cells slots Q (F0 m (pc + 3) ls (.ref q :: rest))) : W p l e R s m args below meth c H locs cells slots Q (F0 m pc ls rest) := by
  intro T hT X
  obtain ⟨t, a1, b1⟩ := k T hT X
  exact ⟨t, X.ldcStringW hexec hown (text := tx) (a := q) hZ.1 hZ.2 (g := F0 m pc ls rest) rfl (by rw [hb]; exact hdg) t a1, b1⟩
