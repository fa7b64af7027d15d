set_option maxHeartbeats 4000000 in
set_option maxRecDepth 100000 in
theorem rt_X11_pass (l : Launch) (dC : Nat → ClassId) (dI : Nat → Nat → Nat) (sz : Nat) (h0 : Nat) (ad : Nat → Nat) (p0 : Int32) : Met l yX11_pass wsX11_pass ({ frames := 0, cells := 0, slots := 0, locals := 0 }) (va_Pc [.ref h0, .int p0] (fun U => U.heap.size = sz ∧ va_P (dC, dI) vwCl [(h0, .inr (11, [.ref (ad 0), .ref (ad 1), .ref (ad 2), .ref (ad 3), .ref (ad 4), .ref (ad 5), .ref (ad 6), .ref (ad 7), .ref (ad 8), .int 0, .int 0, .int 0, .int 0]))] U.heap ∧ va_K (dC, dI) vwCl [] U ∧ va_D (fun _ => True) [(h0, .inr (11, [.ref (ad 0), .ref (ad 1), .ref (ad 2), .ref (ad 3), .ref (ad 4), .ref (ad 5), .ref (ad 6), .ref (ad 7), .ref (ad 8), .int 0, .int 0, .int 0, .int 0]))])) (va_Qi (fun (r : Int32) (u : Unit) => match u with | () => ((p0 < 1 ∨ 48 < p0) ∧ r = (-2)) ∨ ((¬ (p0 < 1 ∨ 48 < p0)) ∧ r = p0)) (fun (u : Unit) (t : State) => match u with | () => True) (va_A [(h0, .inr (11, [.ref (ad 0), .ref (ad 1), .ref (ad 2), .ref (ad 3), .ref (ad 4), .ref (ad 5), .ref (ad 6), .ref (ad 7), .ref (ad 8), .int 0, .int 0, .int 0, .int 0]))] sz)) 0 0 (va_A [(h0, .inr (11, [.ref (ad 0), .ref (ad 1), .ref (ad 2), .ref (ad 3), .ref (ad 4), .ref (ad 5), .ref (ad 6), .ref (ad 7), .ref (ad 8), .int 0, .int 0, .int 0, .int 0]))] sz) := by
  refine Met.ofW (cc := cX11_pass) (maxL := 4) (ret := (some .int)) (by decide) rfl ?_
  intro p e s m args below meth c s₁ B hml hv
  obtain ⟨rfl, hsz, hP, hK, hD0⟩ := hv
  have hx := B.exec
  have hb := B.bytes
  have hr := B.returns
  have hts := atoms_spec (ws := wsX11_pass) B.pre
  have hown : s.vm.findClass RX11 = some m.cls := findClass_of_methodNamed B.named
  have hlocks := B.notSynchronized
  subst hsz
  have hD := hD0.self (sz := s.heap.size)
  generalize hAe : va_A [(h0, .inr (11, [.ref (ad 0), .ref (ad 1), .ref (ad 2), .ref (ad 3), .ref (ad 4), .ref (ad 5), .ref (ad 6), .ref (ad 7), .ref (ad 8), .int 0, .int 0, .int 0, .int 0]))] s.heap.size = A at hD ⊢
  have hA : ∀ q : Nat, s.heap.size ≤ q → A q := fun q h => by rw [← hAe]; exact Or.inr h
  have hS : va_S A s.heap s.heap [] := va_S.rf
  have hl := lv_entry ([.ref h0, .int p0]) (n := 4) (Nat.le_of_ble_eq_true rfl)
  rw [lg_entry_eq]
  generalize (lg_sl ([.ref h0, .int p0]) ++ List.replicate (4 - (lg_sl ([.ref h0, .int p0])).length) Slot.unset).toArray = ls at hl ⊢
  have hl : lv_has ls 4 [(0, .ref h0), (1, .int p0)] := hl
  refine lv_iload_n hx hb dX11_pass_0 rfl (lv_at hl 1 rfl) ?_
  refine lv_iconst (v := 1) hx hb dX11_pass_1 (by decide) ?_
  refine lv_icmp_lt (tgt := 11) hx hb dX11_pass_2 (by decide) (fun c_1 => ?_) (fun c_1 => ?_)
  · refine lv_bipush (v := (-2)) hx hb dX11_pass_11 (by decide) ?_
    have hpost : ((p0 < 1 ∨ 48 < p0) ∧ ((-2) : Int32) = (-2)) ∨ ((¬ (p0 < 1 ∨ 48 < p0)) ∧ ((-2) : Int32) = p0) := by
      try simp only [fa_lt, fa_le, fa_eq, fa_lt64, fa_le64, fa_eq64, Int32.reduceToInt, Int64.reduceToInt, zi_ite] at c_1
      first
      | exact Or.inl ⟨by (try simp only [fa_lt, fa_le, fa_eq, fa_lt64, fa_le64, fa_eq64, Int32.reduceToInt, Int64.reduceToInt, zi_ite]); omega, rfl⟩
      | exact Or.inr (⟨by (try simp only [fa_lt, fa_le, fa_eq, fa_lt64, fa_le64, fa_eq64, Int32.reduceToInt, Int64.reduceToInt, zi_ite]); omega, rfl⟩)
    refine W.widen (k := 0) (n := 0) (Nat.le_of_ble_eq_true rfl) (Nat.le_of_ble_eq_true rfl) ?_
    exact W.iret (v := (-2)) hx hb hr (fun t ht hW => ⟨⟨(-2), (), rfl, hpost, trivial⟩, hS.F ht⟩) hS.2.2 dX11_pass_13
  · refine lv_iload_n hx hb dX11_pass_5 rfl (lv_at hl 1 rfl) ?_
    refine lv_bipush (v := 48) hx hb dX11_pass_6 (by decide) ?_
    refine lv_icmp_le (tgt := 14) hx hb dX11_pass_8 (by decide) (fun c_2 => ?_) (fun c_2 => ?_)
    · refine lv_aload_n hx hb dX11_pass_14 rfl (lv_at hl 0 rfl) ?_
      refine va_get (D := (dC, dI)) (ci := 11) (v := .int 0) (C := RX11) (T := TX11) (N := 13) hx hb hts (by decide +kernel) hown hK hP 0 rfl rfl 9 (by decide) (hts (.fieldLink RX11 71 "RedTent" "now" "I") (by decide +kernel)) (fun _ h9 => h9) rfl dX11_pass_15 ?_
      refine lv_iload_n hx hb dX11_pass_18 rfl (lv_at hl 1 rfl) ?_
      refine lv_iadd hx hb dX11_pass_19 ?_
      refine lv_topi (fun y_3 ey_3 => ?_)
      rw [ey_3.trans (Int32.zero_add p0)]
      refine lv_sipush (v := 240) hx hb dX11_pass_20 (by decide) ?_
      refine lv_icmp_lt (tgt := 29) hx hb dX11_pass_23 (by decide) (fun _ => ?_) (fun c9 => absurd (by (try simp only [fa_lt, fa_le, fa_eq, fa_lt64, fa_le64, fa_eq64, Int32.reduceToInt, Int64.reduceToInt, zi_ite] at c_1 c_2 ⊢) <;> omega) c9)
      refine lv_iconst (v := 0) hx hb dX11_pass_29 (by decide) ?_
      refine lv_istore_n (lv' := [(2, .int 0), (0, .ref h0), (1, .int p0)]) hx hb dX11_pass_30 rfl hl (by decide) rfl (fun ls hl => ?_)
      refine lv_iload_n hx hb dX11_pass_31 rfl (lv_at hl 0 rfl) ?_
      refine lv_aload_n hx hb dX11_pass_32 rfl (lv_at hl 1 rfl) ?_
      refine va_get (D := (dC, dI)) (ci := 11) (v := .int 0) (C := RX11) (T := TX11) (N := 13) hx hb hts (by decide +kernel) hown hK hP 0 rfl rfl 10 (by decide) (hts (.fieldLink RX11 75 "RedTent" "bodyCount" "I") (by decide +kernel)) (fun _ h9 => h9) rfl dX11_pass_33 ?_
      refine lv_icmp_ge (tgt := 60) hx hb dX11_pass_36 (by decide) (fun _ => ?_) (fun c9 => absurd (by decide) c9)
      refine lv_aload_n hx hb dX11_pass_60 rfl (lv_at hl 1 rfl) ?_
      refine lv_dup hx hb dX11_pass_61 rfl ?_
      refine va_get (D := (dC, dI)) (ci := 11) (v := .int 0) (C := RX11) (T := TX11) (N := 13) hx hb hts (by decide +kernel) hown hK hP 0 rfl rfl 9 (by decide) (hts (.fieldLink RX11 71 "RedTent" "now" "I") (by decide +kernel)) (fun _ h9 => h9) rfl dX11_pass_62 ?_
      refine lv_iload_n hx hb dX11_pass_65 rfl (lv_at hl 2 rfl) ?_
      refine lv_iadd hx hb dX11_pass_66 ?_
      refine lv_topi (fun y_4 ey_4 => ?_)
      rw [ey_4.trans (Int32.zero_add p0)]
      refine va_put (D := (dC, dI)) (ci := 11) (v := .int p0) (ty := .int) (C := RX11) (T := TX11) (N := 13) hx hb hts (by decide +kernel) tyX11 tyX11_ok nmX11 hown hK hP hD hS 0 rfl rfl 9 (by decide) (hts (.fieldLink RX11 71 "RedTent" "now" "I") (by decide +kernel)) (fun _ h9 => h9) rfl (by decide +kernel) rfl rfl (Nat.le_of_ble_eq_true rfl) dX11_pass_67 (fun H locs hP hD hS => ?_)
      have hP : va_P (dC, dI) vwCl [(h0, .inr (11, [.ref (ad 0), .ref (ad 1), .ref (ad 2), .ref (ad 3), .ref (ad 4), .ref (ad 5), .ref (ad 6), .ref (ad 7), .ref (ad 8), .int p0, .int 0, .int 0, .int 0]))] H := hP
      have hD : va_D A [(h0, .inr (11, [.ref (ad 0), .ref (ad 1), .ref (ad 2), .ref (ad 3), .ref (ad 4), .ref (ad 5), .ref (ad 6), .ref (ad 7), .ref (ad 8), .int p0, .int 0, .int 0, .int 0]))] := hD
      refine lv_aload_n hx hb dX11_pass_70 rfl (lv_at hl 1 rfl) ?_
      refine va_get (D := (dC, dI)) (ci := 11) (v := .int p0) (C := RX11) (T := TX11) (N := 13) hx hb hts (by decide +kernel) hown hK hP 0 rfl rfl 9 (by decide) (hts (.fieldLink RX11 71 "RedTent" "now" "I") (by decide +kernel)) (fun _ h9 => h9) rfl dX11_pass_71 ?_
      have hpost : ((p0 < 1 ∨ 48 < p0) ∧ (p0 : Int32) = (-2)) ∨ ((¬ (p0 < 1 ∨ 48 < p0)) ∧ (p0 : Int32) = p0) := by
        try simp only [fa_lt, fa_le, fa_eq, fa_lt64, fa_le64, fa_eq64, Int32.reduceToInt, Int64.reduceToInt, zi_ite] at c_1
        try simp only [fa_lt, fa_le, fa_eq, fa_lt64, fa_le64, fa_eq64, Int32.reduceToInt, Int64.reduceToInt, zi_ite] at c_2
        first
        | exact Or.inl ⟨by (try simp only [fa_lt, fa_le, fa_eq, fa_lt64, fa_le64, fa_eq64, Int32.reduceToInt, Int64.reduceToInt, zi_ite]); omega, rfl⟩
        | exact Or.inr (⟨by (try simp only [fa_lt, fa_le, fa_eq, fa_lt64, fa_le64, fa_eq64, Int32.reduceToInt, Int64.reduceToInt, zi_ite]); omega, rfl⟩)
      refine W.widen (k := 0) (n := 0) (Nat.le_of_ble_eq_true rfl) (Nat.le_of_ble_eq_true rfl) ?_
      exact W.iret (v := p0) hx hb hr (fun t ht hW => ⟨⟨p0, (), rfl, hpost, trivial⟩, hS.F ht⟩) hS.2.2 dX11_pass_74
    · refine lv_bipush (v := (-2)) hx hb dX11_pass_11 (by decide) ?_
      have hpost : ((p0 < 1 ∨ 48 < p0) ∧ ((-2) : Int32) = (-2)) ∨ ((¬ (p0 < 1 ∨ 48 < p0)) ∧ ((-2) : Int32) = p0) := by
        try simp only [fa_lt, fa_le, fa_eq, fa_lt64, fa_le64, fa_eq64, Int32.reduceToInt, Int64.reduceToInt, zi_ite] at c_1
        try simp only [fa_lt, fa_le, fa_eq, fa_lt64, fa_le64, fa_eq64, Int32.reduceToInt, Int64.reduceToInt, zi_ite] at c_2
        first
        | exact Or.inl ⟨by (try simp only [fa_lt, fa_le, fa_eq, fa_lt64, fa_le64, fa_eq64, Int32.reduceToInt, Int64.reduceToInt, zi_ite]); omega, rfl⟩
        | exact Or.inr (⟨by (try simp only [fa_lt, fa_le, fa_eq, fa_lt64, fa_le64, fa_eq64, Int32.reduceToInt, Int64.reduceToInt, zi_ite]); omega, rfl⟩)
      refine W.widen (k := 0) (n := 0) (Nat.le_of_ble_eq_true rfl) (Nat.le_of_ble_eq_true rfl) ?_
      exact W.iret (v := (-2)) hx hb hr (fun t ht hW => ⟨⟨(-2), (), rfl, hpost, trivial⟩, hS.F ht⟩) hS.2.2 dX11_pass_13
set_option maxHeartbeats 4000000 in
set_option maxRecDepth 100000 in
theorem rt_X11_stays (l : Launch) (dC : Nat → ClassId) (dI : Nat → Nat → Nat) (sz : Nat) (h0 : Nat) (ad : Nat → Nat) (p0 : Int32) : Met l yX11_stays wsX11_stays ({ frames := 0, cells := 0, slots := 0, locals := 0 }) (va_Pc [.ref h0, .int p0] (fun U => U.heap.size = sz ∧ va_P (dC, dI) vwCl [(h0, .inr (11, [.ref (ad 0), .ref (ad 1), .ref (ad 2), .ref (ad 3), .ref (ad 4), .ref (ad 5), .ref (ad 6), .ref (ad 7), .ref (ad 8), .int 0, .int 0, .int 0, .int 0]))] U.heap ∧ va_K (dC, dI) vwCl [] U ∧ va_D (fun _ => True) [(h0, .inr (11, [.ref (ad 0), .ref (ad 1), .ref (ad 2), .ref (ad 3), .ref (ad 4), .ref (ad 5), .ref (ad 6), .ref (ad 7), .ref (ad 8), .int 0, .int 0, .int 0, .int 0]))])) (va_Qi (fun (r : Int32) (u : Unit) => match u with | () => ((0 ≤ p0 ∧ p0 ≤ 9) ∧ r = 0) ∨ ((¬ (0 ≤ p0 ∧ p0 ≤ 9)) ∧ r = (-2))) (fun (u : Unit) (t : State) => match u with | () => True) (va_A [(h0, .inr (11, [.ref (ad 0), .ref (ad 1), .ref (ad 2), .ref (ad 3), .ref (ad 4), .ref (ad 5), .ref (ad 6), .ref (ad 7), .ref (ad 8), .int 0, .int 0, .int 0, .int 0]))] sz)) 0 0 (va_A [(h0, .inr (11, [.ref (ad 0), .ref (ad 1), .ref (ad 2), .ref (ad 3), .ref (ad 4), .ref (ad 5), .ref (ad 6), .ref (ad 7), .ref (ad 8), .int 0, .int 0, .int 0, .int 0]))] sz) := by
  refine Met.ofW (cc := cX11_stays) (maxL := 3) (ret := (some .int)) (by decide) rfl ?_
  intro p e s m args below meth c s₁ B hml hv
  obtain ⟨rfl, hsz, hP, hK, hD0⟩ := hv
  have hx := B.exec
  have hb := B.bytes
  have hr := B.returns
  have hts := atoms_spec (ws := wsX11_stays) B.pre
  have hown : s.vm.findClass RX11 = some m.cls := findClass_of_methodNamed B.named
  have hlocks := B.notSynchronized
  subst hsz
  have hD := hD0.self (sz := s.heap.size)
  generalize hAe : va_A [(h0, .inr (11, [.ref (ad 0), .ref (ad 1), .ref (ad 2), .ref (ad 3), .ref (ad 4), .ref (ad 5), .ref (ad 6), .ref (ad 7), .ref (ad 8), .int 0, .int 0, .int 0, .int 0]))] s.heap.size = A at hD ⊢
  have hA : ∀ q : Nat, s.heap.size ≤ q → A q := fun q h => by rw [← hAe]; exact Or.inr h
  have hS : va_S A s.heap s.heap [] := va_S.rf
  have hl := lv_entry ([.ref h0, .int p0]) (n := 3) (Nat.le_of_ble_eq_true rfl)
  rw [lg_entry_eq]
  generalize (lg_sl ([.ref h0, .int p0]) ++ List.replicate (3 - (lg_sl ([.ref h0, .int p0])).length) Slot.unset).toArray = ls at hl ⊢
  have hl : lv_has ls 3 [(0, .ref h0), (1, .int p0)] := hl
  refine lv_iload_n hx hb dX11_stays_0 rfl (lv_at hl 1 rfl) ?_
  refine lv_if_lt (tgt := 10) hx hb dX11_stays_1 (by decide) (fun c_1 => ?_) (fun c_1 => ?_)
  · refine lv_bipush (v := (-2)) hx hb dX11_stays_10 (by decide) ?_
    have hpost : ((0 ≤ p0 ∧ p0 ≤ 9) ∧ ((-2) : Int32) = 0) ∨ ((¬ (0 ≤ p0 ∧ p0 ≤ 9)) ∧ ((-2) : Int32) = (-2)) := by
      try simp only [fa_lt, fa_le, fa_eq, fa_lt64, fa_le64, fa_eq64, Int32.reduceToInt, Int64.reduceToInt, zi_ite] at c_1
      first
      | exact Or.inl ⟨by (try simp only [fa_lt, fa_le, fa_eq, fa_lt64, fa_le64, fa_eq64, Int32.reduceToInt, Int64.reduceToInt, zi_ite]); omega, rfl⟩
      | exact Or.inr (⟨by (try simp only [fa_lt, fa_le, fa_eq, fa_lt64, fa_le64, fa_eq64, Int32.reduceToInt, Int64.reduceToInt, zi_ite]); omega, rfl⟩)
    refine W.widen (k := 0) (n := 0) (Nat.le_of_ble_eq_true rfl) (Nat.le_of_ble_eq_true rfl) ?_
    exact W.iret (v := (-2)) hx hb hr (fun t ht hW => ⟨⟨(-2), (), rfl, hpost, trivial⟩, hS.F ht⟩) hS.2.2 dX11_stays_12
  · refine lv_iload_n hx hb dX11_stays_4 rfl (lv_at hl 1 rfl) ?_
    refine lv_bipush (v := 9) hx hb dX11_stays_5 (by decide) ?_
    refine lv_icmp_le (tgt := 13) hx hb dX11_stays_7 (by decide) (fun c_2 => ?_) (fun c_2 => ?_)
    · refine lv_aload_n hx hb dX11_stays_13 rfl (lv_at hl 0 rfl) ?_
      refine va_get (D := (dC, dI)) (ci := 11) (v := .int 0) (C := RX11) (T := TX11) (N := 13) hx hb hts (by decide +kernel) hown hK hP 0 rfl rfl 12 (by decide) (hts (.fieldLink RX11 253 "RedTent" "stayHours" "I") (by decide +kernel)) (fun _ h9 => h9) rfl dX11_stays_14 ?_
      refine lv_istore_n (lv' := [(2, .int 0), (0, .ref h0), (1, .int p0)]) hx hb dX11_stays_17 rfl hl (by decide) rfl (fun ls hl => ?_)
      refine lv_aload_n hx hb dX11_stays_18 rfl (lv_at hl 1 rfl) ?_
      refine lv_iload_n hx hb dX11_stays_19 rfl (lv_at hl 2 rfl) ?_
      refine va_put (D := (dC, dI)) (ci := 11) (v := .int p0) (ty := .int) (C := RX11) (T := TX11) (N := 13) hx hb hts (by decide +kernel) tyX11 tyX11_ok nmX11 hown hK hP hD hS 0 rfl rfl 12 (by decide) (hts (.fieldLink RX11 253 "RedTent" "stayHours" "I") (by decide +kernel)) (fun _ h9 => h9) rfl (by decide +kernel) rfl rfl (Nat.le_of_ble_eq_true rfl) dX11_stays_20 (fun H locs hP hD hS => ?_)
      have hP : va_P (dC, dI) vwCl [(h0, .inr (11, [.ref (ad 0), .ref (ad 1), .ref (ad 2), .ref (ad 3), .ref (ad 4), .ref (ad 5), .ref (ad 6), .ref (ad 7), .ref (ad 8), .int 0, .int 0, .int 0, .int p0]))] H := hP
      have hD : va_D A [(h0, .inr (11, [.ref (ad 0), .ref (ad 1), .ref (ad 2), .ref (ad 3), .ref (ad 4), .ref (ad 5), .ref (ad 6), .ref (ad 7), .ref (ad 8), .int 0, .int 0, .int 0, .int p0]))] := hD
      refine lv_iload_n hx hb dX11_stays_23 rfl (lv_at hl 0 rfl) ?_
      have hpost : ((0 ≤ p0 ∧ p0 ≤ 9) ∧ (0 : Int32) = 0) ∨ ((¬ (0 ≤ p0 ∧ p0 ≤ 9)) ∧ (0 : Int32) = (-2)) := by
        try simp only [fa_lt, fa_le, fa_eq, fa_lt64, fa_le64, fa_eq64, Int32.reduceToInt, Int64.reduceToInt, zi_ite] at c_1
        try simp only [fa_lt, fa_le, fa_eq, fa_lt64, fa_le64, fa_eq64, Int32.reduceToInt, Int64.reduceToInt, zi_ite] at c_2
        first
        | exact Or.inl ⟨by (try simp only [fa_lt, fa_le, fa_eq, fa_lt64, fa_le64, fa_eq64, Int32.reduceToInt, Int64.reduceToInt, zi_ite]); omega, rfl⟩
        | exact Or.inr (⟨by (try simp only [fa_lt, fa_le, fa_eq, fa_lt64, fa_le64, fa_eq64, Int32.reduceToInt, Int64.reduceToInt, zi_ite]); omega, rfl⟩)
      refine W.widen (k := 0) (n := 0) (Nat.le_of_ble_eq_true rfl) (Nat.le_of_ble_eq_true rfl) ?_
      exact W.iret (v := 0) hx hb hr (fun t ht hW => ⟨⟨0, (), rfl, hpost, trivial⟩, hS.F ht⟩) hS.2.2 dX11_stays_24
    · refine lv_bipush (v := (-2)) hx hb dX11_stays_10 (by decide) ?_
      have hpost : ((0 ≤ p0 ∧ p0 ≤ 9) ∧ ((-2) : Int32) = 0) ∨ ((¬ (0 ≤ p0 ∧ p0 ≤ 9)) ∧ ((-2) : Int32) = (-2)) := by
        try simp only [fa_lt, fa_le, fa_eq, fa_lt64, fa_le64, fa_eq64, Int32.reduceToInt, Int64.reduceToInt, zi_ite] at c_1
        try simp only [fa_lt, fa_le, fa_eq, fa_lt64, fa_le64, fa_eq64, Int32.reduceToInt, Int64.reduceToInt, zi_ite] at c_2
        first
        | exact Or.inl ⟨by (try simp only [fa_lt, fa_le, fa_eq, fa_lt64, fa_le64, fa_eq64, Int32.reduceToInt, Int64.reduceToInt, zi_ite]); omega, rfl⟩
        | exact Or.inr (⟨by (try simp only [fa_lt, fa_le, fa_eq, fa_lt64, fa_le64, fa_eq64, Int32.reduceToInt, Int64.reduceToInt, zi_ite]); omega, rfl⟩)
      refine W.widen (k := 0) (n := 0) (Nat.le_of_ble_eq_true rfl) (Nat.le_of_ble_eq_true rfl) ?_
      exact W.iret (v := (-2)) hx hb hr (fun t ht hW => ⟨⟨(-2), (), rfl, hpost, trivial⟩, hS.F ht⟩) hS.2.2 dX11_stays_12
set_option maxHeartbeats 4000000 in
set_option maxRecDepth 100000 in
theorem rt_X10_setHours (l : Launch) (dC : Nat → ClassId) (dI : Nat → Nat → Nat) (sz : Nat) (h1 : Nat) (cA : ClassId) (f : Nat → Int32) (p0 p1 p2 : Int32) (hp0 : 0 ≤ p0.toInt) (hp1 : p1.toInt ≤ 240) : Met l yX10_setHours wsX10_setHours ({ frames := 1, cells := 0, slots := 0, locals := 13 }) (va_Pc [.ref h1, .int p0, .int p1, .int p2] (fun U => U.heap.size = sz ∧ va_P (dC, dI) vwCl [(h1, .inl (cA, 240, .inl f))] U.heap ∧ va_K (dC, dI) vwCl [(cA, .int)] U ∧ va_D (fun _ => True) [(h1, .inl (cA, 240, .inl f))])) (va_Qv (fun u : (Nat → Int32) => match u with | f2 => True) (fun (u : (Nat → Int32)) (t : State) => match u with | f2 => va_P (dC, dI) vwCl [(h1, .inl (cA, 240, .inl f2))] t.heap ∧ va_D (va_A [(h1, .inl (cA, 240, .inl f))] sz) [(h1, .inl (cA, 240, .inl f2))]) (va_A [(h1, .inl (cA, 240, .inl f))] sz)) 0 0 (va_A [(h1, .inl (cA, 240, .inl f))] sz) := by
  refine Met.ofW (cc := cX10_setHours) (maxL := 5) (ret := none) (by decide) rfl ?_
  intro p e s m args below meth c s₁ B hml hv
  obtain ⟨rfl, hsz, hP, hK, hD0⟩ := hv
  have hx := B.exec
  have hb := B.bytes
  have hr := B.returns
  have hts := atoms_spec (ws := wsX10_setHours) B.pre
  have hown : s.vm.findClass RX10 = some m.cls := findClass_of_methodNamed B.named
  have hlocks := B.notSynchronized
  subst hsz
  have hD := hD0.self (sz := s.heap.size)
  generalize hAe : va_A [(h1, .inl (cA, 240, .inl f))] s.heap.size = A at hD ⊢
  have hA : ∀ q : Nat, s.heap.size ≤ q → A q := fun q h => by rw [← hAe]; exact Or.inr h
  have hS : va_S A s.heap s.heap [] := va_S.rf
  have hl := lv_entry ([.ref h1, .int p0, .int p1, .int p2]) (n := 5) (Nat.le_of_ble_eq_true rfl)
  rw [lg_entry_eq]
  generalize (lg_sl ([.ref h1, .int p0, .int p1, .int p2]) ++ List.replicate (5 - (lg_sl ([.ref h1, .int p0, .int p1, .int p2])).length) Slot.unset).toArray = ls at hl ⊢
  have hl : lv_has ls 5 [(0, .ref h1), (1, .int p0), (2, .int p1), (3, .int p2)] := hl
  refine lv_iload_n hx hb dX10_setHours_0 rfl (lv_at hl 1 rfl) ?_
  refine lv_iconst (v := 0) hx hb dX10_setHours_1 (by decide) ?_
  refine va_mmax hx hb (by rw [hml]; exact hl.1.symm) hown (hts (.methodLink RX10 29 Lib.Math.max.name) (by decide +kernel)) (hts (.static Lib.Math.max.name) (by decide +kernel)) (hts (.initialized "java/lang/Math") (by decide +kernel)) (hts (.code Lib.Math.max.name Lib.Math.max.code 2 (some .int)) (by decide +kernel)) (Nat.le_of_ble_eq_true rfl) (Nat.le_of_ble_eq_true rfl) (Nat.le_of_ble_eq_true rfl) (Nat.le_of_ble_eq_true rfl) dX10_setHours_2 ?_
  refine lv_topi (fun x_1 ex_1 => ?_)
  refine lv_istore (lv' := [(4, .int x_1), (0, .ref h1), (1, .int p0), (2, .int p1), (3, .int p2)]) hx hb dX10_setHours_5 hl (by decide) rfl (fun ls hl => ?_)
  have lp : ∀ (n : Nat) (xlp : Int32) (g0 : Nat → Int32), (240 - xlp.toInt).toNat < n → 0 ≤ xlp.toInt → xlp.toInt ≤ 240 → ∀ (H : Heap) (locs : List Loc), va_P (dC, dI) vwCl [(h1, .inl (cA, 240, .inl g0))] H → va_D A [(h1, .inl (cA, 240, .inl g0))] → va_S A s.heap H locs → ∀ (ls : Array Slot), lv_has ls 5 [(4, .int xlp), (0, .ref h1), (1, .int p0), (2, .int p1), (3, .int p2)] → W p l e (headSpec wsX10_setHours ({ frames := 1, cells := 0, slots := 0, locals := 13 })).room s m ([.ref h1, .int p0, .int p1, .int p2] : List Value).toArray below meth c H locs 0 0 (MQ below (va_Qv (fun u : (Nat → Int32) => match u with | f2 => True) (fun (u : (Nat → Int32)) (t : State) => match u with | f2 => va_P (dC, dI) vwCl [(h1, .inl (cA, 240, .inl f2))] t.heap ∧ va_D A [(h1, .inl (cA, 240, .inl f2))]) A) ([.ref h1, .int p0, .int p1, .int p2] : List Value).toArray s 0 0 A) (F0 m 7 ls []) := by
    intro n
    induction n with
    | zero => intro xlp g0 hm; exact absurd hm (Nat.not_lt_zero _)
    | succ n ih =>
      intro xlp g0 hm h0lp h1lp H locs hP hD hS ls hl
      refine lv_iload hx hb dX10_setHours_7 (lv_at hl 0 rfl) ?_
      refine lv_iload_n hx hb dX10_setHours_9 rfl (lv_at hl 3 rfl) ?_
      refine lv_icmp_ge (tgt := 31) hx hb dX10_setHours_10 (by decide) (fun c_2 => ?_) (fun c_2 => ?_)
      · have hP9 := hP.sub (ws' := [(h1, .inl (cA, 240, .inl g0))]) [0] rfl
        have hD9 := hD.sub (ws' := [(h1, .inl (cA, 240, .inl g0))]) [0] (by decide) rfl
        refine W.widen (k := 0) (n := 0) (Nat.le_of_ble_eq_true rfl) (Nat.le_of_ble_eq_true rfl) ?_
        exact W.vret hx hb hr (fun t ht hW => ⟨⟨g0, rfl, trivial, by rw [ht]; exact hP9, hD9⟩, hS.F ht⟩) hS.2.2 dX10_setHours_31
      · refine lv_iload hx hb dX10_setHours_13 (lv_at hl 0 rfl) ?_
        refine lv_aload_n hx hb dX10_setHours_15 rfl (lv_at hl 1 rfl) ?_
        refine va_alen (v := 240) hx hb hK hP 0 0 rfl rfl (by decide) dX10_setHours_16 ?_
        refine lv_icmp_ge (tgt := 31) hx hb dX10_setHours_17 (by decide) (fun c_3 => ?_) (fun c_3 => ?_)
        · have hP9 := hP.sub (ws' := [(h1, .inl (cA, 240, .inl g0))]) [0] rfl
          have hD9 := hD.sub (ws' := [(h1, .inl (cA, 240, .inl g0))]) [0] (by decide) rfl
          refine W.widen (k := 0) (n := 0) (Nat.le_of_ble_eq_true rfl) (Nat.le_of_ble_eq_true rfl) ?_
          exact W.vret hx hb hr (fun t ht hW => ⟨⟨g0, rfl, trivial, by rw [ht]; exact hP9, hD9⟩, hS.F ht⟩) hS.2.2 dX10_setHours_31
        · refine lv_aload_n hx hb dX10_setHours_20 rfl (lv_at hl 1 rfl) ?_
          refine lv_iload hx hb dX10_setHours_21 (lv_at hl 0 rfl) ?_
          refine lv_iload_n hx hb dX10_setHours_23 rfl (lv_at hl 4 rfl) ?_
          refine va_iast hx hb hK hP hD hS 0 0 rfl rfl (vp_in_iff.mpr (by (try simp only [fa_lt, fa_le, fa_eq, fa_lt64, fa_le64, fa_eq64, Int32.reduceToInt, Int64.reduceToInt, zi_ite] at ex_1 hm h0lp h1lp c_2 c_3 ⊢) <;> omega)) dX10_setHours_24 (fun H locs hP hD hS => ?_)
          have hP : va_P (dC, dI) vwCl [(h1, .inl (cA, 240, .inl (upd g0 xlp.toNatClampNeg p2)))] H := hP
          have hD : va_D A [(h1, .inl (cA, 240, .inl (upd g0 xlp.toNatClampNeg p2)))] := hD
          obtain ⟨x_4, ex_4⟩ : ∃ y : Int32, y = xlp + 1 := ⟨_, rfl⟩
          refine lv_iinc (v := x_4) (lv' := [(4, .int x_4), (0, .ref h1), (1, .int p0), (2, .int p1), (3, .int p2)]) hx hb dX10_setHours_25 hl (k := 0) rfl (by rw [ex_4]; rfl) (by decide) rfl (fun ls hl => ?_)
          refine lv_goto (tgt := 7) hx hb dX10_setHours_28 (by decide) ?_
          try simp only [fa_lt, fa_le, fa_eq, fa_lt64, fa_le64, fa_eq64, Int32.reduceToInt, Int64.reduceToInt, zi_ite] at ex_1
          try simp only [fa_lt, fa_le, fa_eq, fa_lt64, fa_le64, fa_eq64, Int32.reduceToInt, Int64.reduceToInt, zi_ite] at hm
          try simp only [fa_lt, fa_le, fa_eq, fa_lt64, fa_le64, fa_eq64, Int32.reduceToInt, Int64.reduceToInt, zi_ite] at h0lp
          try simp only [fa_lt, fa_le, fa_eq, fa_lt64, fa_le64, fa_eq64, Int32.reduceToInt, Int64.reduceToInt, zi_ite] at h1lp
          try simp only [fa_lt, fa_le, fa_eq, fa_lt64, fa_le64, fa_eq64, Int32.reduceToInt, Int64.reduceToInt, zi_ite] at c_2
          try simp only [fa_lt, fa_le, fa_eq, fa_lt64, fa_le64, fa_eq64, Int32.reduceToInt, Int64.reduceToInt, zi_ite] at c_3
          have tx_4 : x_4.toInt = xlp.toInt + 1 := by rw [ex_4]; exact zi_inc (by omega)
          exact ih x_4 (upd g0 xlp.toNatClampNeg p2) (by omega) (by omega) (by omega) _ _ hP hD hS ls (lv_sub hl [0, 1, 2, 3, 4] rfl)
  exact lp _ x_1 f (Nat.lt_succ_self _) (by (try simp only [fa_lt, fa_le, fa_eq, fa_lt64, fa_le64, fa_eq64, Int32.reduceToInt, Int64.reduceToInt, zi_ite] at ex_1 ⊢) <;> omega) (by (try simp only [fa_lt, fa_le, fa_eq, fa_lt64, fa_le64, fa_eq64, Int32.reduceToInt, Int64.reduceToInt, zi_ite] at ex_1 ⊢) <;> omega) _ _ hP hD hS ls hl
