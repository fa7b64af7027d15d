theorem va_AOA.spec {t : FieldType} {args : Array Value} {s : State} (h : (Cond.arrayOver (.array t)).before args s = true) :
    ∃ comp c k, s.vm.findClass (FieldType.array t).toString = some comp ∧ (s.vm.classes.findIdx? fun (x : Class) => match x.kind with | .array component _ => component == comp | _ => false) = some c ∧ s.vm.classes[c]? = some k ∧ k.kind = .array comp (.array t) ∧ s.vm.findClass ("[" ++ (FieldType.array t).toString) = some c := by
  unfold Cond.before at h
  simp only [Cond.holds, Cond.value, beq_iff_eq] at h
  cases hc : s.vm.findClass (FieldType.array t).toString with
  | none => simp [hc] at h
  | some comp =>
    simp only [hc, Option.bind_some, Option.bind_eq_some_iff, Option.map_eq_some_iff] at h
    obtain ⟨c, hi, k, hk, hb⟩ := h
    obtain ⟨hlt, hp, -⟩ := Array.findIdx?_eq_some_iff_getElem.mp hi
    have hkk : s.vm.classes[c] = k := (Array.getElem?_eq_some_iff.mp hk).2
    rw [hkk] at hp
    cases hkind : k.kind with
    | array component ty =>
      rw [hkind] at hb hp
      simp at hb hp
      exact ⟨comp, c, k, rfl, hi, hk, by rw [hkind, hp, hb.1], hb.2⟩
    | _ => rw [hkind] at hb; simp at hb
theorem va_AOA.moved {t : FieldType} {u U : State} (hvm : u.vm.Alike U.vm) (h : va_AOA t u) : va_AOA t U := by
  obtain ⟨comp, c, k, h1, h2, h3, h4, h5⟩ := va_AOA.spec h
  obtain ⟨k', hk', he⟩ := hvm.2.2 _ _ h3
  have hi : (U.vm.classes.findIdx? fun (x : Class) => match x.kind with | .array component _ => component == comp | _ => false) = some c := by
    rw [hvm.findIdx?_eqK _ (fun _ => rfl)]
    exact h2
  have hkind : k'.kind = .array comp (.array t) := by rw [he]; exact h4
  have f1 : U.vm.findClass (FieldType.array t).toString = some comp := by rw [hvm.findClass]; exact h1
  have f2 : U.vm.findClass ("[" ++ (FieldType.array t).toString) = some c := by rw [hvm.findClass]; exact h5
  unfold va_AOA Cond.before Cond.holds
  simp only [Cond.value]
  rw [f1, Option.bind_some]
  refine (congrArg (fun o : Option Nat => (o.bind (fun c => (U.vm.classes[c]?).map fun (k : Class) => match k.kind with | .array _ ty => decide (ty = FieldType.array t) && decide (U.vm.findClass ("[" ++ (FieldType.array t).toString) = some c) | _ => false) == some true)) hi).trans ?_
  simp [hk', hkind, f2]
/-- nest links and array classes -/
def rt_E (U : State) : Prop := va_Nw (.methodLinkNest RX11 24 yX4_init RX11) U ∧ va_Nw (.methodLinkNest RX11 31 yX6_init RX11) U ∧ va_Nw (.methodLinkNest RX11 38 yX2_init RX11) U ∧ va_Nw (.methodLinkNest RX11 52 yX8_init RX11) U ∧ va_Nw (.methodLinkNest RX11 59 yX1_init RX11) U ∧ va_Nw (.methodLinkNest RX11 70 yX7_init RX11) U ∧ va_Nw (.methodLinkNest RX3 23 yX5_init RX11) U ∧ va_Nw (.methodLinkNest RX3 34 yX9_init RX11) U ∧ va_Nw (.methodLinkNest RX5 26 yX9_init RX11) U ∧ va_AO RX0 U ∧ va_AO RX7 U ∧ va_AO RX9 U ∧ va_AOA .int U
theorem rt_E.warm {s U : State} (hW : s.WarmedH U.vm) (h : rt_E s) : rt_E U := ⟨va_Nw.warmM hW h.1, va_Nw.warmM hW h.2.1, va_Nw.warmM hW h.2.2.1, va_Nw.warmM hW h.2.2.2.1, va_Nw.warmM hW h.2.2.2.2.1, va_Nw.warmM hW h.2.2.2.2.2.1, va_Nw.warmM hW h.2.2.2.2.2.2.1, va_Nw.warmM hW h.2.2.2.2.2.2.2.1, va_Nw.warmM hW h.2.2.2.2.2.2.2.2.1, va_AO.moved hW.alike h.2.2.2.2.2.2.2.2.2.1, va_AO.moved hW.alike h.2.2.2.2.2.2.2.2.2.2.1, va_AO.moved hW.alike h.2.2.2.2.2.2.2.2.2.2.2.1, va_AOA.moved hW.alike h.2.2.2.2.2.2.2.2.2.2.2.2⟩
theorem rt_E.same {u U : State} (hv : u.vm = U.vm) (h : rt_E u) : rt_E U := ⟨va_Nw.same rfl hv h.1, va_Nw.same rfl hv h.2.1, va_Nw.same rfl hv h.2.2.1, va_Nw.same rfl hv h.2.2.2.1, va_Nw.same rfl hv h.2.2.2.2.1, va_Nw.same rfl hv h.2.2.2.2.2.1, va_Nw.same rfl hv h.2.2.2.2.2.2.1, va_Nw.same rfl hv h.2.2.2.2.2.2.2.1, va_Nw.same rfl hv h.2.2.2.2.2.2.2.2.1, va_AO.moved (by rw [← hv]; exact Vm.Alike.refl u.vm) h.2.2.2.2.2.2.2.2.2.1, va_AO.moved (by rw [← hv]; exact Vm.Alike.refl u.vm) h.2.2.2.2.2.2.2.2.2.2.1, va_AO.moved (by rw [← hv]; exact Vm.Alike.refl u.vm) h.2.2.2.2.2.2.2.2.2.2.2.1, va_AOA.moved (by rw [← hv]; exact Vm.Alike.refl u.vm) h.2.2.2.2.2.2.2.2.2.2.2.2⟩
def rt_s1 (j : Nat) : Value := .int (([-2, 2, -18, -1, -17] : List Int32).getD j 0)
def rt_s2 (j : Nat) : Value := .int (([-6, 6, -18, -5, -14] : List Int32).getD j 0)
def rt_s3 (j : Nat) : Value := .int (([1, 3, 9, 27, 81, 243] : List Int32).getD j 0)
def rt_T (A : Nat → Prop) (U : State) (H : Heap) : Prop := (∃ t : Nat, va_Z "RedTent$Text" "FIRST_TAKE" "[I" (.ref t) A U H ∧ va_T .int t 5 rt_s1 A U H) ∧ (∃ t : Nat, va_Z "RedTent$Text" "FIRST_GO" "[I" (.ref t) A U H ∧ va_T .int t 5 rt_s2 A U H) ∧ (∃ t : Nat, va_Z "RedTent$Breaker" "POWERS_OF_3" "[I" (.ref t) A U H ∧ va_T .int t 6 rt_s3 A U H)
theorem rt_T.give {A B : Nat → Prop} {s U : State} {H : Heap} {locs : List Loc} (h : rt_T A s s.heap) (hS : va_S A s.heap H locs) (hAB : ∀ q, B q → A q) (hU : U.heap = H) (hvm : s.vm.Alike U.vm) : rt_T B U U.heap := by
  rw [hU]
  obtain ⟨⟨t1, a1, b1⟩, ⟨t2, a2, b2⟩, ⟨t3, a3, b3⟩⟩ := h
  exact ⟨⟨t1, ((a1.kept hS.2.1).narrow hAB).moved hvm, ((b1.kept hS.2.1).narrow hAB).moved hvm⟩, ⟨t2, ((a2.kept hS.2.1).narrow hAB).moved hvm, ((b2.kept hS.2.1).narrow hAB).moved hvm⟩, ⟨t3, ((a3.kept hS.2.1).narrow hAB).moved hvm, ((b3.kept hS.2.1).narrow hAB).moved hvm⟩⟩
theorem rt_T.same {A : Nat → Prop} {U : State} {g : JFrame} {mk : MethodId} {a : Array Value} (h : rt_T A U U.heap) : rt_T A (U.calling g mk a) (U.calling g mk a).heap := by
  obtain ⟨⟨t1, a1, b1⟩, ⟨t2, a2, b2⟩, ⟨t3, a3, b3⟩⟩ := h
  exact ⟨⟨t1, va_Z.moved (u := U) (Vm.Alike.refl U.vm) a1, va_T.moved (u := U) (Vm.Alike.refl U.vm) b1⟩, ⟨t2, va_Z.moved (u := U) (Vm.Alike.refl U.vm) a2, va_T.moved (u := U) (Vm.Alike.refl U.vm) b2⟩, ⟨t3, va_Z.moved (u := U) (Vm.Alike.refl U.vm) a3, va_T.moved (u := U) (Vm.Alike.refl U.vm) b3⟩⟩
