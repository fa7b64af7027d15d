theorem va_AOA.spec {t : FieldType} {args : Array Value} {s : State} (h : (Cond.arrayOver (.array t)).before args s = true) :
    ∃ comp c k, s.vm.findClass (FieldType.array t).toString = some comp ∧ (s.vm.classes.findIdx? fun (x : Class) => match x.kind with | .array component _ => component == comp | _ => false) = some c ∧ s.vm.classes[c]? = some k ∧ k.kind = .array comp (.array t) ∧ s.vm.findClass ("[" ++ (FieldType.array t).toString) = some c := by
  unfold Cond.before at h
  simp only [Cond.holds, Cond.value, beq_iff_eq] at h
  cases hc : s.vm.findClass (FieldType.array t).toString with
  | none => simp [hc] at h
  | some comp =>
    simp only [hc, Option.bind_some, Option.bind_eq_some_iff, Option.map_eq_some_iff] at h
    obtain ⟨c, hi, k, hk, hb⟩ := h
    obtain ⟨hlt, hp, -⟩ := Array.findIdx?_eq_some_iff_getElem.mp hi
    have hkk : s.vm.classes[c] = k := (Array.getElem?_eq_some_iff.mp hk).2
    rw [hkk] at hp
    cases hkind : k.kind with
    | array component ty =>
      rw [hkind] at hb hp
      simp at hb hp
      exact ⟨comp, c, k, rfl, hi, hk, by rw [hkind, hp, hb.1], hb.2⟩
    | _ => rw [hkind] at hb; simp at hb
theorem va_AOA.moved {t : FieldType} {u U : State} (hvm : u.vm.Alike U.vm) (h : va_AOA t u) : va_AOA t U := by
  obtain ⟨comp, c, k, h1, h2, h3, h4, h5⟩ := va_AOA.spec h
  obtain ⟨k', hk', he⟩ := hvm.2.2 _ _ h3
  have hi : (U.vm.classes.findIdx? fun (x : Class) => match x.kind with | .array component _ => component == comp | _ => false) = some c := by
    rw [hvm.findIdx?_eqK _ (fun _ => rfl)]
    exact h2
  have hkind : k'.kind = .array comp (.array t) := by rw [he]; exact h4
  have f1 : U.vm.findClass (FieldType.array t).toString = some comp := by rw [hvm.findClass]; exact h1
  have f2 : U.vm.findClass ("[" ++ (FieldType.array t).toString) = some c := by rw [hvm.findClass]; exact h5
  unfold va_AOA Cond.before Cond.holds
  simp only [Cond.value]
  rw [f1, Option.bind_some]
  refine (congrArg (fun o : Option Nat => (o.bind (fun c => (U.vm.classes[c]?).map fun (k : Class) => match k.kind with | .array _ ty => decide (ty = FieldType.array t) && decide (U.vm.findClass ("[" ++ (FieldType.array t).toString) = some c) | _ => false) == some true)) hi).trans ?_
  simp [hk', hkind, f2]
def rt_E (U : State) : Prop := va_Nw (.methodLinkNest RX11 24 yX4_init RX11) U ∧ va_Nw (.methodLinkNest RX11 31 yX6_init RX11) U ∧ va_Nw (.methodLinkNest RX11 38 yX2_init RX11) U ∧ va_Nw (.methodLinkNest RX11 52 yX8_init RX11) U ∧ va_Nw (.methodLinkNest RX11 59 yX1_init RX11) U ∧ va_Nw (.methodLinkNest RX11 70 yX7_init RX11) U ∧ va_Nw (.methodLinkNest RX3 23 yX5_init RX11) U ∧ va_Nw (.methodLinkNest RX3 34 yX9_init RX11) U ∧ va_Nw (.methodLinkNest RX5 26 yX9_init RX11) U ∧ va_Nw (.methodLinkNest RX10 39 yX11_byColumns RX11) U ∧ va_Nw (.methodLinkNest RX10 43 yX11_byRows RX11) U ∧ va_Nw (.methodLinkNest RX4 57 yX11_apart RX11) U ∧ va_Nw (.methodLinkNest RX4 61 yX11_has RX11) U ∧ va_Nw (.methodLinkNest RX6 33 yX11_has RX11) U ∧ va_Nw (.fieldLinkNest RX0 53 "RedTent" "EATS_A_MAN" "[I" RX11) U ∧ va_Nw (.fieldLinkNest RX0 56 "RedTent" "EATS_BESIDE" "[I" RX11) U ∧ va_Nw (.fieldLinkNest RX0 59 "RedTent" "BURNS" "[I" RX11) U ∧ va_Nw (.fieldLinkNest RX0 72 "RedTent" "UNDER" "[I" RX11) U ∧ va_AO RX0 U ∧ va_AO RX7 U ∧ va_AO RX9 U ∧ va_AOA .int U
theorem rt_E.warm {s U : State} (hW : s.WarmedH U.vm) (h : rt_E s) : rt_E U := ⟨va_Nw.warmM hW h.1, va_Nw.warmM hW h.2.1, va_Nw.warmM hW h.2.2.1, va_Nw.warmM hW h.2.2.2.1, va_Nw.warmM hW h.2.2.2.2.1, va_Nw.warmM hW h.2.2.2.2.2.1, va_Nw.warmM hW h.2.2.2.2.2.2.1, va_Nw.warmM hW h.2.2.2.2.2.2.2.1, va_Nw.warmM hW h.2.2.2.2.2.2.2.2.1, va_Nw.warmM hW h.2.2.2.2.2.2.2.2.2.1, va_Nw.warmM hW h.2.2.2.2.2.2.2.2.2.2.1, va_Nw.warmM hW h.2.2.2.2.2.2.2.2.2.2.2.1, va_Nw.warmM hW h.2.2.2.2.2.2.2.2.2.2.2.2.1, va_Nw.warmM hW h.2.2.2.2.2.2.2.2.2.2.2.2.2.1, va_Nw.warmF hW h.2.2.2.2.2.2.2.2.2.2.2.2.2.2.1, va_Nw.warmF hW h.2.2.2.2.2.2.2.2.2.2.2.2.2.2.2.1, va_Nw.warmF hW h.2.2.2.2.2.2.2.2.2.2.2.2.2.2.2.2.1, va_Nw.warmF hW h.2.2.2.2.2.2.2.2.2.2.2.2.2.2.2.2.2.1, va_AO.moved hW.alike h.2.2.2.2.2.2.2.2.2.2.2.2.2.2.2.2.2.2.1, va_AO.moved hW.alike h.2.2.2.2.2.2.2.2.2.2.2.2.2.2.2.2.2.2.2.1, va_AO.moved hW.alike h.2.2.2.2.2.2.2.2.2.2.2.2.2.2.2.2.2.2.2.2.1, va_AOA.moved hW.alike h.2.2.2.2.2.2.2.2.2.2.2.2.2.2.2.2.2.2.2.2.2⟩
theorem rt_E.same {u U : State} (hv : u.vm = U.vm) (h : rt_E u) : rt_E U := ⟨va_Nw.same rfl hv h.1, va_Nw.same rfl hv h.2.1, va_Nw.same rfl hv h.2.2.1, va_Nw.same rfl hv h.2.2.2.1, va_Nw.same rfl hv h.2.2.2.2.1, va_Nw.same rfl hv h.2.2.2.2.2.1, va_Nw.same rfl hv h.2.2.2.2.2.2.1, va_Nw.same rfl hv h.2.2.2.2.2.2.2.1, va_Nw.same rfl hv h.2.2.2.2.2.2.2.2.1, va_Nw.same rfl hv h.2.2.2.2.2.2.2.2.2.1, va_Nw.same rfl hv h.2.2.2.2.2.2.2.2.2.2.1, va_Nw.same rfl hv h.2.2.2.2.2.2.2.2.2.2.2.1, va_Nw.same rfl hv h.2.2.2.2.2.2.2.2.2.2.2.2.1, va_Nw.same rfl hv h.2.2.2.2.2.2.2.2.2.2.2.2.2.1, va_Nw.same rfl hv h.2.2.2.2.2.2.2.2.2.2.2.2.2.2.1, va_Nw.same rfl hv h.2.2.2.2.2.2.2.2.2.2.2.2.2.2.2.1, va_Nw.same rfl hv h.2.2.2.2.2.2.2.2.2.2.2.2.2.2.2.2.1, va_Nw.same rfl hv h.2.2.2.2.2.2.2.2.2.2.2.2.2.2.2.2.2.1, va_AO.moved (by rw [← hv]; exact Vm.Alike.refl u.vm) h.2.2.2.2.2.2.2.2.2.2.2.2.2.2.2.2.2.2.1, va_AO.moved (by rw [← hv]; exact Vm.Alike.refl u.vm) h.2.2.2.2.2.2.2.2.2.2.2.2.2.2.2.2.2.2.2.1, va_AO.moved (by rw [← hv]; exact Vm.Alike.refl u.vm) h.2.2.2.2.2.2.2.2.2.2.2.2.2.2.2.2.2.2.2.2.1, va_AOA.moved (by rw [← hv]; exact Vm.Alike.refl u.vm) h.2.2.2.2.2.2.2.2.2.2.2.2.2.2.2.2.2.2.2.2.2⟩
def rt_s0 (j : Nat) : Value := .int (([-2, 2, -18, -1, -17] : List Int32).getD j 0)
def rt_s1 (j : Nat) : Value := .int (([-6, 6, -18, -5, -14] : List Int32).getD j 0)
def rt_s2 (j : Nat) : Value := .int (([1, 3, 9, 27, 81, 243] : List Int32).getD j 0)
def rt_s3 (j : Nat) : Value := .int (([-1, 0, 0, 1, 1, 2] : List Int32).getD j 0)
def rt_s4 (j : Nat) : Value := .int (([0, 1, 0, 1, 2, 0] : List Int32).getD j 0)
def rt_s5 (j : Nat) : Value := .int (([0, 0, 0, 1, 0, 1] : List Int32).getD j 0)
def rt_s6 (j : Nat) : Value := .int (([1, 1, 3, 1, 1, 6] : List Int32).getD j 0)
def rt_T (A : Nat → Prop) (U : State) (H : Heap) : Prop := (∃ t : Nat, va_Z "RedTent$Text" "FIRST_TAKE" "[I" (.ref t) A U H ∧ va_T .int t 5 rt_s0 A U H) ∧ (∃ t : Nat, va_Z "RedTent$Text" "FIRST_GO" "[I" (.ref t) A U H ∧ va_T .int t 5 rt_s1 A U H) ∧ (∃ t : Nat, va_Z "RedTent$Breaker" "POWERS_OF_3" "[I" (.ref t) A U H ∧ va_T .int t 6 rt_s2 A U H) ∧ (∃ t : Nat, va_Z "RedTent" "UNDER" "[I" (.ref t) A U H ∧ va_T .int t 6 rt_s3 A U H) ∧ (∃ t : Nat, va_Z "RedTent" "EATS_A_MAN" "[I" (.ref t) A U H ∧ va_T .int t 6 rt_s4 A U H) ∧ (∃ t : Nat, va_Z "RedTent" "EATS_BESIDE" "[I" (.ref t) A U H ∧ va_T .int t 6 rt_s5 A U H) ∧ (∃ t : Nat, va_Z "RedTent" "BURNS" "[I" (.ref t) A U H ∧ va_T .int t 6 rt_s6 A U H)
theorem rt_T.give {A B : Nat → Prop} {s U : State} {H : Heap} {locs : List Loc} (h : rt_T A s s.heap) (hS : va_S A s.heap H locs) (hAB : ∀ q, B q → A q) (hU : U.heap = H) (hvm : s.vm.Alike U.vm) : rt_T B U U.heap := by
  rw [hU]
  obtain ⟨⟨t0, a0, b0⟩, ⟨t1, a1, b1⟩, ⟨t2, a2, b2⟩, ⟨t3, a3, b3⟩, ⟨t4, a4, b4⟩, ⟨t5, a5, b5⟩, ⟨t6, a6, b6⟩⟩ := h
  exact ⟨⟨t0, ((a0.kept hS.2.1).narrow hAB).moved hvm, ((b0.kept hS.2.1).narrow hAB).moved hvm⟩, ⟨t1, ((a1.kept hS.2.1).narrow hAB).moved hvm, ((b1.kept hS.2.1).narrow hAB).moved hvm⟩, ⟨t2, ((a2.kept hS.2.1).narrow hAB).moved hvm, ((b2.kept hS.2.1).narrow hAB).moved hvm⟩, ⟨t3, ((a3.kept hS.2.1).narrow hAB).moved hvm, ((b3.kept hS.2.1).narrow hAB).moved hvm⟩, ⟨t4, ((a4.kept hS.2.1).narrow hAB).moved hvm, ((b4.kept hS.2.1).narrow hAB).moved hvm⟩, ⟨t5, ((a5.kept hS.2.1).narrow hAB).moved hvm, ((b5.kept hS.2.1).narrow hAB).moved hvm⟩, ⟨t6, ((a6.kept hS.2.1).narrow hAB).moved hvm, ((b6.kept hS.2.1).narrow hAB).moved hvm⟩⟩
theorem rt_T.same {A : Nat → Prop} {U : State} {g : JFrame} {mk : MethodId} {a : Array Value} (h : rt_T A U U.heap) : rt_T A (U.calling g mk a) (U.calling g mk a).heap := by
  obtain ⟨⟨t0, a0, b0⟩, ⟨t1, a1, b1⟩, ⟨t2, a2, b2⟩, ⟨t3, a3, b3⟩, ⟨t4, a4, b4⟩, ⟨t5, a5, b5⟩, ⟨t6, a6, b6⟩⟩ := h
  exact ⟨⟨t0, va_Z.moved (u := U) (Vm.Alike.refl U.vm) a0, va_T.moved (u := U) (Vm.Alike.refl U.vm) b0⟩, ⟨t1, va_Z.moved (u := U) (Vm.Alike.refl U.vm) a1, va_T.moved (u := U) (Vm.Alike.refl U.vm) b1⟩, ⟨t2, va_Z.moved (u := U) (Vm.Alike.refl U.vm) a2, va_T.moved (u := U) (Vm.Alike.refl U.vm) b2⟩, ⟨t3, va_Z.moved (u := U) (Vm.Alike.refl U.vm) a3, va_T.moved (u := U) (Vm.Alike.refl U.vm) b3⟩, ⟨t4, va_Z.moved (u := U) (Vm.Alike.refl U.vm) a4, va_T.moved (u := U) (Vm.Alike.refl U.vm) b4⟩, ⟨t5, va_Z.moved (u := U) (Vm.Alike.refl U.vm) a5, va_T.moved (u := U) (Vm.Alike.refl U.vm) b5⟩, ⟨t6, va_Z.moved (u := U) (Vm.Alike.refl U.vm) a6, va_T.moved (u := U) (Vm.Alike.refl U.vm) b6⟩⟩
def rt_Str (q v N : Nat) (f : Nat → Int32) (A : Nat → Prop) (U : State) (H : Heap) : Prop := va_O "java/lang/String" q A U H ∧ va_OF "java/lang/String" "coder" "B" (.int 0) q A U H ∧ va_OF "java/lang/String" "value" "[B" (.ref v) q A U H ∧ va_T .byte v N (fun j => .int (f j)) A U H ∧ va_Z "java/lang/String" "COMPACT_STRINGS" "Z" (.int 1) A U H ∧ va_Zq "jdk/internal/util/Preconditions" "SIOOBE_FORMATTER" "Ljava/util/function/BiFunction;" A U H
theorem rt_Str.give {q v N : Nat} {f : Nat → Int32} {A B : Nat → Prop} {s U : State} {H : Heap} {locs : List Loc} (h : rt_Str q v N f A s s.heap) (hS : va_S A s.heap H locs) (hAB : ∀ q, B q → A q) (hU : U.heap = H) (hvm : s.vm.Alike U.vm) : rt_Str q v N f B U U.heap := by
  rw [hU]
  obtain ⟨h1, h2, h3, h4, h5, h6⟩ := h
  exact ⟨((h1.kept hS.2.1).narrow hAB).moved hvm, ((h2.kept hS.2.1).narrow hAB).moved hvm, ((h3.kept hS.2.1).narrow hAB).moved hvm, ((h4.kept hS.2.1).narrow hAB).moved hvm, ((h5.kept hS.2.1).narrow hAB).moved hvm, ((h6.kept hS.2.1).narrow hAB).moved hvm⟩
theorem rt_Str.same {q v N : Nat} {f : Nat → Int32} {A : Nat → Prop} {U : State} {g : JFrame} {mk : MethodId} {a : Array Value} (h : rt_Str q v N f A U U.heap) : rt_Str q v N f A (U.calling g mk a) (U.calling g mk a).heap := by
  obtain ⟨h1, h2, h3, h4, h5, h6⟩ := h
  exact ⟨va_O.moved (u := U) (Vm.Alike.refl U.vm) h1, va_OF.moved (u := U) (Vm.Alike.refl U.vm) h2, va_OF.moved (u := U) (Vm.Alike.refl U.vm) h3, va_T.moved (u := U) (Vm.Alike.refl U.vm) h4, va_Z.moved (u := U) (Vm.Alike.refl U.vm) h5, va_Zq.moved (u := U) (Vm.Alike.refl U.vm) h6⟩
theorem rt_recv {E : String} {t : Nat} {A : Nat → Prop} {s : State} {H : Heap} {locs : List Loc} (h : va_O E t A s s.heap) (hS : va_S A s.heap H locs) : ∃ cell : Cell, H[t]? = some cell ∧ cell.vm.isStatics = false ∧ s.vm.findClass E = some cell.cls := by
  obtain ⟨cell, h1, h2, h3, -⟩ := h.kept hS.2.1
  exact ⟨cell, h1, h2, h3⟩
theorem va_ldcwS {p : Program} {l : Launch} {e : Env} {R : Room} {s : State} {m : MethodId} {args : Array Value} {below : List Frame} {meth : Method} {c : Code} {H : Heap} {locs : List Loc} {cells slots : Nat} {Q : State → Prop} {cc : ByteArray} {pc : Nat} {ls : Array Slot} {rest : List Value} (hexec : p.tables.exec = Jvm.exec) (hb : c.code = cc) {own tx : String} {index q : Nat} (hown : s.vm.findClass own = some m.cls) (hZ : vk_R own index tx q s) (hdg : decode cc pc = .ok (.ldc_w index, 3))
    (k : W p l e R s m args below meth c H locs cells slots Q (F0 m (pc + 3) ls (.ref q :: rest))) : W p l e R s m args below meth c H locs cells slots Q (F0 m pc ls rest) := by
  intro T hT X
  obtain ⟨t, a1, b1⟩ := k T hT X
  exact ⟨t, X.ldcStringW hexec hown (text := tx) (a := q) hZ.1 hZ.2 (g := F0 m pc ls rest) rfl (by rw [hb]; exact hdg) t a1, b1⟩
/-- the String constants: class, entry, text, bytes -/
def rt_strs : List (String × Nat × String × List Int32) := [(RX5, 131, "strength", [115, 116, 114, 101, 110, 103, 116, 104]), (RX5, 133, "hurt", [104, 117, 114, 116]), (RX5, 135, "skill", [115, 107, 105, 108, 108]), (RX5, 137, "hour", [104, 111, 117, 114]), (RX5, 139, "fuel", [102, 117, 101, 108]), (RX5, 141, "far", [102, 97, 114]), (RX5, 143, "take", [116, 97, 107, 101]), (RX5, 145, "go", [103, 111]), (RX5, 147, "or", [111, 114]), (RX5, 149, "and", [97, 110, 100]), (RX5, 151, "not", [110, 111, 116]), (RX12, 170, "take hurt * 2 - strength ; go far * 6 < fuel ;", [116, 97, 107, 101, 32, 104, 117, 114, 116, 32, 42, 32, 50, 32, 45, 32, 115, 116, 114, 101, 110, 103, 116, 104, 32, 59, 32, 103, 111, 32, 102, 97, 114, 32, 42, 32, 54, 32, 60, 32, 102, 117, 101, 108, 32, 59]), (RX12, 362, "or", [111, 114]), (RX12, 370, "and", [97, 110, 100]), (RX12, 378, "not", [110, 111, 116]), (RX12, 387, "<", [60]), (RX12, 389, "=", [61]), (RX12, 394, "+", [43]), (RX12, 396, "-", [45]), (RX12, 401, "*", [42]), (RX12, 403, "(", [40]), (RX12, 408, ")", [41]), (RX12, 410, "strength", [115, 116, 114, 101, 110, 103, 116, 104]), (RX12, 411, "hurt", [104, 117, 114, 116]), (RX12, 412, "skill", [115, 107, 105, 108, 108]), (RX12, 413, "hour", [104, 111, 117, 114]), (RX12, 414, "fuel", [102, 117, 101, 108]), (RX12, 415, "far", [102, 97, 114]), (RX12, 417, "take", [116, 97, 107, 101]), (RX12, 421, ";", [59]), (RX12, 423, "go", [103, 111])]
def rt_SS (A : Nat → Prop) (U : State) (H : Heap) : Prop := ∀ t ∈ rt_strs, ∃ q v : Nat, rt_Str q v t.2.2.2.length (fun j => t.2.2.2.getD j 0) A U H ∧ vk_R t.1 t.2.1 t.2.2.1 q U
theorem rt_SS.give {A B : Nat → Prop} {s U : State} {H : Heap} {locs : List Loc} (h : rt_SS A s s.heap) (hS : va_S A s.heap H locs) (hAB : ∀ q, B q → A q) (hU : U.heap = H) (hW : s.WarmedH U.vm) : rt_SS B U U.heap := fun t ht => by
  obtain ⟨q, v, h1, h2⟩ := h t ht
  exact ⟨q, v, rt_Str.give h1 hS hAB hU hW.alike, vk_R.warm hW h2⟩
theorem rt_SS.same {A : Nat → Prop} {U : State} {g : JFrame} {mk : MethodId} {a : Array Value} (h : rt_SS A U U.heap) : rt_SS A (U.calling g mk a) (U.calling g mk a).heap := fun t ht => by
  obtain ⟨q, v, h1, h2⟩ := h t ht
  exact ⟨q, v, rt_Str.same h1, vk_R.same rfl h2⟩
