theorem dX12_days_0 : decode cX12_days 0 = .ok (.iload_n 1, 1) := by decide +kernel
theorem dX12_days_1 : decode cX12_days 1 = .ok (.iconst 1, 1) := by decide +kernel
theorem dX12_days_2 : decode cX12_days 2 = .ok (.iconst 5, 1) := by decide +kernel
set_option maxRecDepth 20000 in
theorem ggX12_days_X12_within : GoodIn wsX12_days wsX12_within := goodIn_r _ [7] (by decide +kernel) (by decide +kernel)
set_option maxRecDepth 20000 in
theorem gX12_days_X12_within : GoodIn wsX12_days (va_wsS RX12 186 yX12_within wsX12_within) := goodIn_app (goodIn_of _ (by decide +kernel)) ggX12_days_X12_within
theorem dX12_days_3 : decode cX12_days 3 = .ok (.invokestatic 186, 3) := by decide +kernel
theorem dX12_days_6 : decode cX12_days 6 = .ok (.ifCond .eq 13, 3) := by decide +kernel
theorem dX12_days_9 : decode cX12_days 9 = .ok (.iload_n 2, 1) := by decide +kernel
theorem dX12_days_10 : decode cX12_days 10 = .ok (.iconst 0, 1) := by decide +kernel
theorem dX12_days_11 : decode cX12_days 11 = .ok (.bipush 99, 2) := by decide +kernel
theorem dX12_days_13 : decode cX12_days 13 = .ok (.invokestatic 186, 3) := by decide +kernel
theorem dX12_days_16 : decode cX12_days 16 = .ok (.ifCond .ne 6, 3) := by decide +kernel
theorem dX12_days_22 : decode cX12_days 22 = .ok (.iload_n 3, 1) := by decide +kernel
theorem dX12_days_23 : decode cX12_days 23 = .ok (.iconst (-1), 1) := by decide +kernel
theorem dX12_days_24 : decode cX12_days 24 = .ok (.iload_n 1, 1) := by decide +kernel
theorem dX12_days_25 : decode cX12_days 25 = .ok (.iconst 1, 1) := by decide +kernel
theorem dX12_days_26 : decode cX12_days 26 = .ok (.isub, 1) := by decide +kernel
theorem dX12_days_27 : decode cX12_days 27 = .ok (.invokestatic 186, 3) := by decide +kernel
theorem dX12_days_30 : decode cX12_days 30 = .ok (.ifCond .ne 5, 3) := by decide +kernel
theorem dX12_days_35 : decode cX12_days 35 = .ok (.iconst 1, 1) := by decide +kernel
theorem dX12_days_36 : decode cX12_days 36 = .ok (.istore 4, 2) := by decide +kernel
theorem dX12_days_38 : decode cX12_days 38 = .ok (.iconst 0, 1) := by decide +kernel
theorem dX12_days_39 : decode cX12_days 39 = .ok (.istore 5, 2) := by decide +kernel
theorem dX12_days_41 : decode cX12_days 41 = .ok (.iload 5, 2) := by decide +kernel
theorem dX12_days_43 : decode cX12_days 43 = .ok (.iload_n 1, 1) := by decide +kernel
theorem dX12_days_44 : decode cX12_days 44 = .ok (.if_icmp .ge 15, 3) := by decide +kernel
theorem dX12_days_59 : decode cX12_days 59 = .ok (.iconst (-1), 1) := by decide +kernel
theorem dX12_days_60 : decode cX12_days 60 = .ok (.istore 5, 2) := by decide +kernel
theorem dX12_days_62 : decode cX12_days 62 = .ok (.iconst 0, 1) := by decide +kernel
theorem dX12_days_63 : decode cX12_days 63 = .ok (.istore 6, 2) := by decide +kernel
theorem dX12_days_65 : decode cX12_days 65 = .ok (.iload 6, 2) := by decide +kernel
theorem dX12_days_67 : decode cX12_days 67 = .ok (.iload 4, 2) := by decide +kernel
theorem dX12_days_69 : decode cX12_days 69 = .ok (.if_icmp .ge 146, 3) := by decide +kernel
theorem dX12_days_215 : decode cX12_days 215 = .ok (.iload_n 3, 1) := by decide +kernel
theorem dX12_days_216 : decode cX12_days 216 = .ok (.ifCond .ge 8, 3) := by decide +kernel
theorem dX12_days_224 : decode cX12_days 224 = .ok (.aload_n 0, 1) := by decide +kernel
theorem dX12_days_225 : decode cX12_days 225 = .ok (.getfield 155, 3) := by decide +kernel
theorem dX12_days_228 : decode cX12_days 228 = .ok (.iload_n 3, 1) := by decide +kernel
theorem dX12_days_229 : decode cX12_days 229 = .ok (.iaload, 1) := by decide +kernel
theorem dX12_days_230 : decode cX12_days 230 = .ok (.ireturn, 1) := by decide +kernel
theorem dX12_days_219 : decode cX12_days 219 = .ok (.iload 5, 2) := by decide +kernel
theorem dX12_days_221 : decode cX12_days 221 = .ok (.goto 9, 3) := by decide +kernel
theorem dX12_days_72 : decode cX12_days 72 = .ok (.iload 6, 2) := by decide +kernel
theorem dX12_days_74 : decode cX12_days 74 = .ok (.istore 7, 2) := by decide +kernel
theorem dX12_days_76 : decode cX12_days 76 = .ok (.iload_n 1, 1) := by decide +kernel
theorem dX12_days_77 : decode cX12_days 77 = .ok (.iconst 1, 1) := by decide +kernel
theorem dX12_days_78 : decode cX12_days 78 = .ok (.isub, 1) := by decide +kernel
theorem dX12_days_79 : decode cX12_days 79 = .ok (.istore 8, 2) := by decide +kernel
theorem dX12_days_81 : decode cX12_days 81 = .ok (.iload 8, 2) := by decide +kernel
theorem dX12_days_83 : decode cX12_days 83 = .ok (.ifCond .lt 26, 3) := by decide +kernel
theorem dX12_days_109 : decode cX12_days 109 = .ok (.aload_n 0, 1) := by decide +kernel
theorem dX12_days_110 : decode cX12_days 110 = .ok (.getfield 448, 3) := by decide +kernel
theorem dX12_days_113 : decode cX12_days 113 = .ok (.ifCond .ne 7, 3) := by decide +kernel
theorem dX12_days_116 : decode cX12_days 116 = .ok (.iconst 0, 1) := by decide +kernel
theorem dX12_days_117 : decode cX12_days 117 = .ok (.goto 6, 3) := by decide +kernel
theorem dX12_days_123 : decode cX12_days 123 = .ok (.istore 8, 2) := by decide +kernel
theorem dX12_days_125 : decode cX12_days 125 = .ok (.iconst 0, 1) := by decide +kernel
theorem dX12_days_126 : decode cX12_days 126 = .ok (.istore 9, 2) := by decide +kernel
theorem dX12_days_128 : decode cX12_days 128 = .ok (.iload 9, 2) := by decide +kernel
theorem dX12_days_130 : decode cX12_days 130 = .ok (.aload_n 0, 1) := by decide +kernel
theorem dX12_days_131 : decode cX12_days 131 = .ok (.getfield 448, 3) := by decide +kernel
theorem dX12_days_134 : decode cX12_days 134 = .ok (.if_icmp .ge 35, 3) := by decide +kernel
theorem dX12_days_169 : decode cX12_days 169 = .ok (.iload 8, 2) := by decide +kernel
theorem dX12_days_171 : decode cX12_days 171 = .ok (.iload 5, 2) := by decide +kernel
theorem dX12_days_173 : decode cX12_days 173 = .ok (.if_icmp .le 36, 3) := by decide +kernel
theorem dX12_days_209 : decode cX12_days 209 = .ok (.iinc 6 1, 3) := by decide +kernel
theorem dX12_days_212 : decode cX12_days 212 = .ok (.goto (-147), 3) := by decide +kernel
theorem dX12_days_176 : decode cX12_days 176 = .ok (.iload 8, 2) := by decide +kernel
theorem dX12_days_178 : decode cX12_days 178 = .ok (.istore 5, 2) := by decide +kernel
theorem dX12_days_180 : decode cX12_days 180 = .ok (.iconst 0, 1) := by decide +kernel
theorem dX12_days_181 : decode cX12_days 181 = .ok (.istore 9, 2) := by decide +kernel
theorem dX12_days_183 : decode cX12_days 183 = .ok (.iload 9, 2) := by decide +kernel
theorem dX12_days_185 : decode cX12_days 185 = .ok (.iload_n 1, 1) := by decide +kernel
theorem dX12_days_186 : decode cX12_days 186 = .ok (.if_icmp .ge 23, 3) := by decide +kernel
theorem dX12_days_189 : decode cX12_days 189 = .ok (.aload_n 0, 1) := by decide +kernel
theorem dX12_days_190 : decode cX12_days 190 = .ok (.getfield 155, 3) := by decide +kernel
theorem dX12_days_193 : decode cX12_days 193 = .ok (.iload 9, 2) := by decide +kernel
theorem dX12_days_195 : decode cX12_days 195 = .ok (.aload_n 0, 1) := by decide +kernel
theorem dX12_days_196 : decode cX12_days 196 = .ok (.getfield 152, 3) := by decide +kernel
theorem dX12_days_199 : decode cX12_days 199 = .ok (.iload 9, 2) := by decide +kernel
theorem dX12_days_201 : decode cX12_days 201 = .ok (.iaload, 1) := by decide +kernel
theorem dX12_days_202 : decode cX12_days 202 = .ok (.iastore, 1) := by decide +kernel
theorem dX12_days_203 : decode cX12_days 203 = .ok (.iinc 9 1, 3) := by decide +kernel
theorem dX12_days_206 : decode cX12_days 206 = .ok (.goto (-23), 3) := by decide +kernel
theorem dX12_days_86 : decode cX12_days 86 = .ok (.aload_n 0, 1) := by decide +kernel
theorem dX12_days_87 : decode cX12_days 87 = .ok (.getfield 152, 3) := by decide +kernel
theorem dX12_days_90 : decode cX12_days 90 = .ok (.iload 8, 2) := by decide +kernel
theorem dX12_days_92 : decode cX12_days 92 = .ok (.iload 7, 2) := by decide +kernel
theorem dX12_days_94 : decode cX12_days 94 = .ok (.iconst 3, 1) := by decide +kernel
theorem dX12_days_95 : decode cX12_days 95 = .ok (.irem, 1) := by decide +kernel
theorem dX12_days_96 : decode cX12_days 96 = .ok (.iastore, 1) := by decide +kernel
theorem dX12_days_97 : decode cX12_days 97 = .ok (.iload 7, 2) := by decide +kernel
theorem dX12_days_99 : decode cX12_days 99 = .ok (.iconst 3, 1) := by decide +kernel
theorem dX12_days_100 : decode cX12_days 100 = .ok (.idiv, 1) := by decide +kernel
theorem dX12_days_101 : decode cX12_days 101 = .ok (.istore 7, 2) := by decide +kernel
theorem dX12_days_103 : decode cX12_days 103 = .ok (.iinc 8 (-1), 3) := by decide +kernel
theorem dX12_days_106 : decode cX12_days 106 = .ok (.goto (-25), 3) := by decide +kernel
theorem dX12_days_47 : decode cX12_days 47 = .ok (.iload 4, 2) := by decide +kernel
theorem dX12_days_49 : decode cX12_days 49 = .ok (.iconst 3, 1) := by decide +kernel
theorem dX12_days_50 : decode cX12_days 50 = .ok (.imul, 1) := by decide +kernel
theorem dX12_days_51 : decode cX12_days 51 = .ok (.istore 4, 2) := by decide +kernel
theorem dX12_days_53 : decode cX12_days 53 = .ok (.iinc 5 1, 3) := by decide +kernel
theorem dX12_days_56 : decode cX12_days 56 = .ok (.goto (-15), 3) := by decide +kernel
theorem dX12_days_33 : decode cX12_days 33 = .ok (.iconst (-1), 1) := by decide +kernel
theorem dX12_days_34 : decode cX12_days 34 = .ok (.ireturn, 1) := by decide +kernel
theorem dX12_days_19 : decode cX12_days 19 = .ok (.bipush (-2), 2) := by decide +kernel
theorem dX12_days_21 : decode cX12_days 21 = .ok (.ireturn, 1) := by decide +kernel
set_option maxHeartbeats 1000000 in
set_option maxRecDepth 100000 in
theorem rt_X12_days (l : Launch) (dC : Nat → ClassId) (dI : Nat → Nat → Nat) (sz : Nat) (h0 : Nat) (am : Nat → Nat) (cs : Nat → ClassId) (fs gs : Nat → Int32) (p0 p1 p2 : Int32) : Met l yX12_days wsX12_days ({ frames := 1, cells := 0, slots := 0, locals := 22 }) (va_Pc [.ref h0, .int p0, .int p1, .int p2] (fun U => U.heap.size = sz ∧ va_P (dC, dI) vwCl [(h0, .inr (12, [.int 0, .int 0, .ref (am 2), .ref (am 3), .ref (am 4), .int 0, .ref (am 6), .ref (am 7), .ref (am 8), .int 0, .ref (am 10), .ref (am 11), .ref (am 12), .ref (am 13), .ref (am 14), .ref (am 15), .int 0, .ref (am 17), .ref (am 18), .ref (am 19), .ref (am 20), .int 0, .ref (am 22), .int 0, .ref (am 24), .ref (am 25), .ref (am 26), .ref (am 27), .ref (am 28), .ref (am 29), .int 0, .ref (am 31), .ref (am 32), .ref (am 33), .int 0, .ref (am 35), .int 0, .ref (am 37), .ref (am 38), .ref (am 39), .ref (am 40), .ref (am 41), .ref (am 42), .ref (am 43), .int 0, .ref (am 45), .ref (am 46), .ref (am 47), .int 0, .ref (am 49), .int 0, .ref (am 51), .int 0, .ref (am 53), .ref (am 54), .int 1, .int 0, .ref (am 57), .long 0, .ref (am 59), .ref (am 60), .long 0, .int 0, .int 0, .int 0, .int 0, .int 0, .int 0, .ref (am 68), .int 0, .int 0, .ref (am 71), .ref (am 72), .ref (am 73), .ref (am 74), .ref (am 75), .ref (am 76), .ref (am 77), .ref (am 78)])), (am 73, .inl (cs 73, 5, .inl fs)), (am 74, .inl (cs 74, 5, .inl gs))] U.heap ∧ va_K (dC, dI) vwCl [(cs 73, .int), (cs 74, .int)] U ∧ va_D (fun _ => True) [(h0, .inr (12, [.int 0, .int 0, .ref (am 2), .ref (am 3), .ref (am 4), .int 0, .ref (am 6), .ref (am 7), .ref (am 8), .int 0, .ref (am 10), .ref (am 11), .ref (am 12), .ref (am 13), .ref (am 14), .ref (am 15), .int 0, .ref (am 17), .ref (am 18), .ref (am 19), .ref (am 20), .int 0, .ref (am 22), .int 0, .ref (am 24), .ref (am 25), .ref (am 26), .ref (am 27), .ref (am 28), .ref (am 29), .int 0, .ref (am 31), .ref (am 32), .ref (am 33), .int 0, .ref (am 35), .int 0, .ref (am 37), .ref (am 38), .ref (am 39), .ref (am 40), .ref (am 41), .ref (am 42), .ref (am 43), .int 0, .ref (am 45), .ref (am 46), .ref (am 47), .int 0, .ref (am 49), .int 0, .ref (am 51), .int 0, .ref (am 53), .ref (am 54), .int 1, .int 0, .ref (am 57), .long 0, .ref (am 59), .ref (am 60), .long 0, .int 0, .int 0, .int 0, .int 0, .int 0, .int 0, .ref (am 68), .int 0, .int 0, .ref (am 71), .ref (am 72), .ref (am 73), .ref (am 74), .ref (am 75), .ref (am 76), .ref (am 77), .ref (am 78)])), (am 73, .inl (cs 73, 5, .inl fs)), (am 74, .inl (cs 74, 5, .inl gs))])) (va_Qi (fun (r : Int32) (u : Unit) => match u with | () => ((¬ (1 ≤ p0 ∧ p0 ≤ 5 ∧ 0 ≤ p1 ∧ p1 ≤ 99)) ∧ r = (-2)) ∨ (((1 ≤ p0 ∧ p0 ≤ 5 ∧ 0 ≤ p1 ∧ p1 ≤ 99) ∧ ¬ (-1 ≤ p2 ∧ p2 < p0)) ∧ r = (-1)) ∨ (((1 ≤ p0 ∧ p0 ≤ 5 ∧ 0 ≤ p1 ∧ p1 ≤ 99) ∧ -1 ≤ p2 ∧ p2 < p0) ∧ r = 0)) (fun (u : Unit) (t : State) => match u with | () => True) (va_A [(h0, .inr (12, [.int 0, .int 0, .ref (am 2), .ref (am 3), .ref (am 4), .int 0, .ref (am 6), .ref (am 7), .ref (am 8), .int 0, .ref (am 10), .ref (am 11), .ref (am 12), .ref (am 13), .ref (am 14), .ref (am 15), .int 0, .ref (am 17), .ref (am 18), .ref (am 19), .ref (am 20), .int 0, .ref (am 22), .int 0, .ref (am 24), .ref (am 25), .ref (am 26), .ref (am 27), .ref (am 28), .ref (am 29), .int 0, .ref (am 31), .ref (am 32), .ref (am 33), .int 0, .ref (am 35), .int 0, .ref (am 37), .ref (am 38), .ref (am 39), .ref (am 40), .ref (am 41), .ref (am 42), .ref (am 43), .int 0, .ref (am 45), .ref (am 46), .ref (am 47), .int 0, .ref (am 49), .int 0, .ref (am 51), .int 0, .ref (am 53), .ref (am 54), .int 1, .int 0, .ref (am 57), .long 0, .ref (am 59), .ref (am 60), .long 0, .int 0, .int 0, .int 0, .int 0, .int 0, .int 0, .ref (am 68), .int 0, .int 0, .ref (am 71), .ref (am 72), .ref (am 73), .ref (am 74), .ref (am 75), .ref (am 76), .ref (am 77), .ref (am 78)])), (am 73, .inl (cs 73, 5, .inl fs)), (am 74, .inl (cs 74, 5, .inl gs))] sz)) 0 0 (va_A [(h0, .inr (12, [.int 0, .int 0, .ref (am 2), .ref (am 3), .ref (am 4), .int 0, .ref (am 6), .ref (am 7), .ref (am 8), .int 0, .ref (am 10), .ref (am 11), .ref (am 12), .ref (am 13), .ref (am 14), .ref (am 15), .int 0, .ref (am 17), .ref (am 18), .ref (am 19), .ref (am 20), .int 0, .ref (am 22), .int 0, .ref (am 24), .ref (am 25), .ref (am 26), .ref (am 27), .ref (am 28), .ref (am 29), .int 0, .ref (am 31), .ref (am 32), .ref (am 33), .int 0, .ref (am 35), .int 0, .ref (am 37), .ref (am 38), .ref (am 39), .ref (am 40), .ref (am 41), .ref (am 42), .ref (am 43), .int 0, .ref (am 45), .ref (am 46), .ref (am 47), .int 0, .ref (am 49), .int 0, .ref (am 51), .int 0, .ref (am 53), .ref (am 54), .int 1, .int 0, .ref (am 57), .long 0, .ref (am 59), .ref (am 60), .long 0, .int 0, .int 0, .int 0, .int 0, .int 0, .int 0, .ref (am 68), .int 0, .int 0, .ref (am 71), .ref (am 72), .ref (am 73), .ref (am 74), .ref (am 75), .ref (am 76), .ref (am 77), .ref (am 78)])), (am 73, .inl (cs 73, 5, .inl fs)), (am 74, .inl (cs 74, 5, .inl gs))] sz) := by
  refine Met.ofW (cc := cX12_days) (maxL := 11) (ret := (some .int)) (by decide) rfl ?_
  intro p e s m args below meth c s₁ B hml hv
  obtain ⟨rfl, hsz, hP, hK, hD0⟩ := hv
  have hx := B.exec
  have hb := B.bytes
  have hr := B.returns
  have hts := atoms_spec (ws := wsX12_days) B.pre
  have hown : s.vm.findClass RX12 = some m.cls := findClass_of_methodNamed B.named
  have hlocks := B.notSynchronized
  subst hsz
  have hD := hD0.self (sz := s.heap.size)
  generalize hAe : va_A [(h0, .inr (12, [.int 0, .int 0, .ref (am 2), .ref (am 3), .ref (am 4), .int 0, .ref (am 6), .ref (am 7), .ref (am 8), .int 0, .ref (am 10), .ref (am 11), .ref (am 12), .ref (am 13), .ref (am 14), .ref (am 15), .int 0, .ref (am 17), .ref (am 18), .ref (am 19), .ref (am 20), .int 0, .ref (am 22), .int 0, .ref (am 24), .ref (am 25), .ref (am 26), .ref (am 27), .ref (am 28), .ref (am 29), .int 0, .ref (am 31), .ref (am 32), .ref (am 33), .int 0, .ref (am 35), .int 0, .ref (am 37), .ref (am 38), .ref (am 39), .ref (am 40), .ref (am 41), .ref (am 42), .ref (am 43), .int 0, .ref (am 45), .ref (am 46), .ref (am 47), .int 0, .ref (am 49), .int 0, .ref (am 51), .int 0, .ref (am 53), .ref (am 54), .int 1, .int 0, .ref (am 57), .long 0, .ref (am 59), .ref (am 60), .long 0, .int 0, .int 0, .int 0, .int 0, .int 0, .int 0, .ref (am 68), .int 0, .int 0, .ref (am 71), .ref (am 72), .ref (am 73), .ref (am 74), .ref (am 75), .ref (am 76), .ref (am 77), .ref (am 78)])), (am 73, .inl (cs 73, 5, .inl fs)), (am 74, .inl (cs 74, 5, .inl gs))] s.heap.size = A at hD  ⊢
  have hA : ∀ q : Nat, s.heap.size ≤ q → A q := fun q h => by rw [← hAe]; exact Or.inr h
  have hS : va_S A s.heap s.heap [] := va_S.rf
  have hl := lv_entry ([.ref h0, .int p0, .int p1, .int p2]) (n := 11) (Nat.le_of_ble_eq_true rfl)
  rw [lg_entry_eq]
  generalize (lg_sl ([.ref h0, .int p0, .int p1, .int p2]) ++ List.replicate (11 - (lg_sl ([.ref h0, .int p0, .int p1, .int p2])).length) Slot.unset).toArray = ls at hl ⊢
  have hl : lv_has ls 11 [(0, .ref h0), (1, .int p0), (2, .int p1), (3, .int p2)] := hl
  refine lv_iload_n hx hb dX12_days_0 rfl (lv_at hl 1 rfl) ?_
  refine lv_iconst (v := 1) hx hb dX12_days_1 (by decide) ?_
  refine lv_iconst (v := 5) hx hb dX12_days_2 (by decide) ?_
  refine vp_callSi (va_Run.run (va_runS (As := [.int p0, .int 1, .int 5]) (rest := []) ⟨hx, hb, hml, hown, hts⟩ (rt_X12_within l p0 1 5) (va_cwS 3 hts gX12_days_X12_within rfl rfl rfl (by decide +kernel) ⟨Nat.le_of_ble_eq_true rfl, Nat.le_of_ble_eq_true rfl⟩) ⟨fun a U g mk q => q, fun U hU hW => ⟨rfl, trivial⟩⟩ rfl rfl hl.1 rfl (lv_room (Nat.le_of_ble_eq_true rfl)) dX12_days_3 ⟨by decide +kernel, by decide +kernel⟩)) (fun r_1 hr_1 => ?_)
  rcases hr_1 with ⟨b_2, rfl⟩ | ⟨b_2, rfl⟩
  · refine lv_if_eq (tgt := 19) hx hb dX12_days_6 (by decide) (fun c9 => absurd c9 (by decide)) (fun _ => ?_)
    refine lv_iload_n hx hb dX12_days_9 rfl (lv_at hl 2 rfl) ?_
    refine lv_iconst (v := 0) hx hb dX12_days_10 (by decide) ?_
    refine lv_bipush (v := 99) hx hb dX12_days_11 (by decide) ?_
    refine vp_callSi (va_Run.run (va_runS (As := [.int p1, .int 0, .int 99]) (rest := []) ⟨hx, hb, hml, hown, hts⟩ (rt_X12_within l p1 0 99) (va_cwS 3 hts gX12_days_X12_within rfl rfl rfl (by decide +kernel) ⟨Nat.le_of_ble_eq_true rfl, Nat.le_of_ble_eq_true rfl⟩) ⟨fun a U g mk q => q, fun U hU hW => ⟨rfl, trivial⟩⟩ rfl rfl hl.1 rfl (lv_room (Nat.le_of_ble_eq_true rfl)) dX12_days_13 ⟨by decide +kernel, by decide +kernel⟩)) (fun r_3 hr_3 => ?_)
    rcases hr_3 with ⟨b_4, rfl⟩ | ⟨b_4, rfl⟩
    · refine lv_if_ne (tgt := 22) hx hb dX12_days_16 (by decide) (fun _ => ?_) (fun c9 => absurd c9 (by decide))
      refine lv_iload_n hx hb dX12_days_22 rfl (lv_at hl 3 rfl) ?_
      refine lv_iconst (v := (-1)) hx hb dX12_days_23 (by decide) ?_
      refine lv_iload_n hx hb dX12_days_24 rfl (lv_at hl 1 rfl) ?_
      refine lv_iconst (v := 1) hx hb dX12_days_25 (by decide) ?_
      refine lv_isub hx hb dX12_days_26 ?_
      refine lv_topi (fun y_5 ey_5 => ?_)
      have ty_5 : y_5.toInt = p0.toInt - 1 := by
        try simp only [fa_lt, fa_le, fa_eq, fa_lt64, fa_le64, fa_eq64, Int32.reduceToInt, Int64.reduceToInt, zi_ite] at b_2
        try simp only [fa_lt, fa_le, fa_eq, fa_lt64, fa_le64, fa_eq64, Int32.reduceToInt, Int64.reduceToInt, zi_ite] at b_4
        rw [ey_5]; exact (zi_sub _ _ (by (try simp only [Int32.reduceToInt]) <;> omega) (by (try simp only [Int32.reduceToInt]) <;> omega))
      refine vp_callSi (va_Run.run (va_runS (As := [.int p2, .int (-1), .int y_5]) (rest := []) ⟨hx, hb, hml, hown, hts⟩ (rt_X12_within l p2 (-1) y_5) (va_cwS 3 hts gX12_days_X12_within rfl rfl rfl (by decide +kernel) ⟨Nat.le_of_ble_eq_true rfl, Nat.le_of_ble_eq_true rfl⟩) ⟨fun a U g mk q => q, fun U hU hW => ⟨rfl, trivial⟩⟩ rfl rfl hl.1 rfl (lv_room (Nat.le_of_ble_eq_true rfl)) dX12_days_27 ⟨by decide +kernel, by decide +kernel⟩)) (fun r_6 hr_6 => ?_)
      rcases hr_6 with ⟨b_7, rfl⟩ | ⟨b_7, rfl⟩
      · refine lv_if_ne (tgt := 35) hx hb dX12_days_30 (by decide) (fun _ => ?_) (fun c9 => absurd c9 (by decide))
        refine lv_iconst (v := 1) hx hb dX12_days_35 (by decide) ?_
        refine lv_istore (lv' := [(4, .int 1), (0, .ref h0), (1, .int p0), (2, .int p1), (3, .int p2)]) hx hb dX12_days_36 hl (by decide) rfl (fun ls hl => ?_)
        refine lv_iconst (v := 0) hx hb dX12_days_38 (by decide) ?_
        refine lv_istore (lv' := [(5, .int 0), (4, .int 1), (0, .ref h0), (1, .int p0), (2, .int p1), (3, .int p2)]) hx hb dX12_days_39 hl (by decide) rfl (fun ls hl => ?_)
        try simp only [fa_lt, fa_le, fa_eq, fa_lt64, fa_le64, fa_eq64, Int32.reduceToInt, Int64.reduceToInt, zi_ite] at b_2
        try simp only [fa_lt, fa_le, fa_eq, fa_lt64, fa_le64, fa_eq64, Int32.reduceToInt, Int64.reduceToInt, zi_ite] at b_4
        try simp only [fa_lt, fa_le, fa_eq, fa_lt64, fa_le64, fa_eq64, Int32.reduceToInt, Int64.reduceToInt, zi_ite] at ty_5
        try simp only [fa_lt, fa_le, fa_eq, fa_lt64, fa_le64, fa_eq64, Int32.reduceToInt, Int64.reduceToInt, zi_ite] at b_7
        have l1 : ∀ (n_l1 : Nat) (d1 : Int32) (a1 : Int32), (p0.toInt - d1.toInt).toNat < n_l1 → 0 ≤ d1.toInt → d1.toInt ≤ p0.toInt → (d1.toInt = 0 ∧ a1.toInt = 1) ∨ (d1.toInt = 1 ∧ a1.toInt = 3) ∨ (d1.toInt = 2 ∧ a1.toInt = 9) ∨ (d1.toInt = 3 ∧ a1.toInt = 27) ∨ (d1.toInt = 4 ∧ a1.toInt = 81) ∨ (d1.toInt = 5 ∧ a1.toInt = 243) → ∀ (H : Heap) (locs : List Loc), va_P (dC, dI) vwCl [(h0, .inr (12, [.int 0, .int 0, .ref (am 2), .ref (am 3), .ref (am 4), .int 0, .ref (am 6), .ref (am 7), .ref (am 8), .int 0, .ref (am 10), .ref (am 11), .ref (am 12), .ref (am 13), .ref (am 14), .ref (am 15), .int 0, .ref (am 17), .ref (am 18), .ref (am 19), .ref (am 20), .int 0, .ref (am 22), .int 0, .ref (am 24), .ref (am 25), .ref (am 26), .ref (am 27), .ref (am 28), .ref (am 29), .int 0, .ref (am 31), .ref (am 32), .ref (am 33), .int 0, .ref (am 35), .int 0, .ref (am 37), .ref (am 38), .ref (am 39), .ref (am 40), .ref (am 41), .ref (am 42), .ref (am 43), .int 0, .ref (am 45), .ref (am 46), .ref (am 47), .int 0, .ref (am 49), .int 0, .ref (am 51), .int 0, .ref (am 53), .ref (am 54), .int 1, .int 0, .ref (am 57), .long 0, .ref (am 59), .ref (am 60), .long 0, .int 0, .int 0, .int 0, .int 0, .int 0, .int 0, .ref (am 68), .int 0, .int 0, .ref (am 71), .ref (am 72), .ref (am 73), .ref (am 74), .ref (am 75), .ref (am 76), .ref (am 77), .ref (am 78)])), (am 73, .inl (cs 73, 5, .inl fs)), (am 74, .inl (cs 74, 5, .inl gs))] H → va_D A [(h0, .inr (12, [.int 0, .int 0, .ref (am 2), .ref (am 3), .ref (am 4), .int 0, .ref (am 6), .ref (am 7), .ref (am 8), .int 0, .ref (am 10), .ref (am 11), .ref (am 12), .ref (am 13), .ref (am 14), .ref (am 15), .int 0, .ref (am 17), .ref (am 18), .ref (am 19), .ref (am 20), .int 0, .ref (am 22), .int 0, .ref (am 24), .ref (am 25), .ref (am 26), .ref (am 27), .ref (am 28), .ref (am 29), .int 0, .ref (am 31), .ref (am 32), .ref (am 33), .int 0, .ref (am 35), .int 0, .ref (am 37), .ref (am 38), .ref (am 39), .ref (am 40), .ref (am 41), .ref (am 42), .ref (am 43), .int 0, .ref (am 45), .ref (am 46), .ref (am 47), .int 0, .ref (am 49), .int 0, .ref (am 51), .int 0, .ref (am 53), .ref (am 54), .int 1, .int 0, .ref (am 57), .long 0, .ref (am 59), .ref (am 60), .long 0, .int 0, .int 0, .int 0, .int 0, .int 0, .int 0, .ref (am 68), .int 0, .int 0, .ref (am 71), .ref (am 72), .ref (am 73), .ref (am 74), .ref (am 75), .ref (am 76), .ref (am 77), .ref (am 78)])), (am 73, .inl (cs 73, 5, .inl fs)), (am 74, .inl (cs 74, 5, .inl gs))] → va_S A s.heap H locs → ∀ (ls : Array Slot), lv_has ls 11 [(5, .int d1), (4, .int a1), (0, .ref h0), (1, .int p0), (2, .int p1), (3, .int p2)] → W p l e (headSpec wsX12_days ({ frames := 1, cells := 0, slots := 0, locals := 22 })).room s m ([.ref h0, .int p0, .int p1, .int p2] : List Value).toArray below meth c H locs 0 0 (MQ below (va_Qi (fun (r : Int32) (u : Unit) => match u with | () => ((¬ (1 ≤ p0 ∧ p0 ≤ 5 ∧ 0 ≤ p1 ∧ p1 ≤ 99)) ∧ r = (-2)) ∨ (((1 ≤ p0 ∧ p0 ≤ 5 ∧ 0 ≤ p1 ∧ p1 ≤ 99) ∧ ¬ (-1 ≤ p2 ∧ p2 < p0)) ∧ r = (-1)) ∨ (((1 ≤ p0 ∧ p0 ≤ 5 ∧ 0 ≤ p1 ∧ p1 ≤ 99) ∧ -1 ≤ p2 ∧ p2 < p0) ∧ r = 0)) (fun (u : Unit) (t : State) => match u with | () => True) A) ([.ref h0, .int p0, .int p1, .int p2] : List Value).toArray s 0 0 A) (F0 m 41 ls []) := by
          intro n_l1
          induction n_l1 with
          | zero => intro d1 a1 hm; exact absurd hm (Nat.not_lt_zero _)
          | succ n_l1 ih_l1 =>
            intro d1 a1 hm_l1 i0 i1 i2 H locs hP hD hS ls hl
            refine lv_iload hx hb dX12_days_41 (lv_at hl 0 rfl) ?_
            refine lv_iload_n hx hb dX12_days_43 rfl (lv_at hl 3 rfl) ?_
            refine lv_icmp_ge (tgt := 59) hx hb dX12_days_44 (by decide) (fun c_8 => ?_) (fun c_8 => ?_)
            · refine lv_iconst (v := (-1)) hx hb dX12_days_59 (by decide) ?_
              refine lv_istore (lv' := [(5, .int (-1)), (4, .int a1), (0, .ref h0), (1, .int p0), (2, .int p1), (3, .int p2)]) hx hb dX12_days_60 hl (by decide) rfl (fun ls hl => ?_)
              refine lv_iconst (v := 0) hx hb dX12_days_62 (by decide) ?_
              refine lv_istore (lv' := [(6, .int 0), (5, .int (-1)), (4, .int a1), (0, .ref h0), (1, .int p0), (2, .int p1), (3, .int p2)]) hx hb dX12_days_63 hl (by decide) rfl (fun ls hl => ?_)
              try simp only [fa_lt, fa_le, fa_eq, fa_lt64, fa_le64, fa_eq64, Int32.reduceToInt, Int64.reduceToInt, zi_ite] at b_2
              try simp only [fa_lt, fa_le, fa_eq, fa_lt64, fa_le64, fa_eq64, Int32.reduceToInt, Int64.reduceToInt, zi_ite] at b_4
              try simp only [fa_lt, fa_le, fa_eq, fa_lt64, fa_le64, fa_eq64, Int32.reduceToInt, Int64.reduceToInt, zi_ite] at ty_5
              try simp only [fa_lt, fa_le, fa_eq, fa_lt64, fa_le64, fa_eq64, Int32.reduceToInt, Int64.reduceToInt, zi_ite] at b_7
              try simp only [fa_lt, fa_le, fa_eq, fa_lt64, fa_le64, fa_eq64, Int32.reduceToInt, Int64.reduceToInt, zi_ite] at hm_l1
              try simp only [fa_lt, fa_le, fa_eq, fa_lt64, fa_le64, fa_eq64, Int32.reduceToInt, Int64.reduceToInt, zi_ite] at i0
              try simp only [fa_lt, fa_le, fa_eq, fa_lt64, fa_le64, fa_eq64, Int32.reduceToInt, Int64.reduceToInt, zi_ite] at i1
              try simp only [fa_lt, fa_le, fa_eq, fa_lt64, fa_le64, fa_eq64, Int32.reduceToInt, Int64.reduceToInt, zi_ite] at i2
              try simp only [fa_lt, fa_le, fa_eq, fa_lt64, fa_le64, fa_eq64, Int32.reduceToInt, Int64.reduceToInt, zi_ite] at c_8
              have l2 : ∀ (n_l2 : Nat) (w : Int32) (b : Int32) (g : Nat → Int32) (h : Nat → Int32), (a1.toInt - w.toInt).toNat < n_l2 → 0 ≤ w.toInt → w.toInt ≤ a1.toInt → (w.toInt = 0 ∧ b.toInt = -1) ∨ (1 ≤ w.toInt ∧ b.toInt = 0) → (1 ≤ w.toInt → ∀ j : Nat, (j : Int) < p0.toInt → h j = 0) → ∀ (H : Heap) (locs : List Loc), va_P (dC, dI) vwCl [(h0, .inr (12, [.int 0, .int 0, .ref (am 2), .ref (am 3), .ref (am 4), .int 0, .ref (am 6), .ref (am 7), .ref (am 8), .int 0, .ref (am 10), .ref (am 11), .ref (am 12), .ref (am 13), .ref (am 14), .ref (am 15), .int 0, .ref (am 17), .ref (am 18), .ref (am 19), .ref (am 20), .int 0, .ref (am 22), .int 0, .ref (am 24), .ref (am 25), .ref (am 26), .ref (am 27), .ref (am 28), .ref (am 29), .int 0, .ref (am 31), .ref (am 32), .ref (am 33), .int 0, .ref (am 35), .int 0, .ref (am 37), .ref (am 38), .ref (am 39), .ref (am 40), .ref (am 41), .ref (am 42), .ref (am 43), .int 0, .ref (am 45), .ref (am 46), .ref (am 47), .int 0, .ref (am 49), .int 0, .ref (am 51), .int 0, .ref (am 53), .ref (am 54), .int 1, .int 0, .ref (am 57), .long 0, .ref (am 59), .ref (am 60), .long 0, .int 0, .int 0, .int 0, .int 0, .int 0, .int 0, .ref (am 68), .int 0, .int 0, .ref (am 71), .ref (am 72), .ref (am 73), .ref (am 74), .ref (am 75), .ref (am 76), .ref (am 77), .ref (am 78)])), (am 73, .inl (cs 73, 5, .inl g)), (am 74, .inl (cs 74, 5, .inl h))] H → va_D A [(h0, .inr (12, [.int 0, .int 0, .ref (am 2), .ref (am 3), .ref (am 4), .int 0, .ref (am 6), .ref (am 7), .ref (am 8), .int 0, .ref (am 10), .ref (am 11), .ref (am 12), .ref (am 13), .ref (am 14), .ref (am 15), .int 0, .ref (am 17), .ref (am 18), .ref (am 19), .ref (am 20), .int 0, .ref (am 22), .int 0, .ref (am 24), .ref (am 25), .ref (am 26), .ref (am 27), .ref (am 28), .ref (am 29), .int 0, .ref (am 31), .ref (am 32), .ref (am 33), .int 0, .ref (am 35), .int 0, .ref (am 37), .ref (am 38), .ref (am 39), .ref (am 40), .ref (am 41), .ref (am 42), .ref (am 43), .int 0, .ref (am 45), .ref (am 46), .ref (am 47), .int 0, .ref (am 49), .int 0, .ref (am 51), .int 0, .ref (am 53), .ref (am 54), .int 1, .int 0, .ref (am 57), .long 0, .ref (am 59), .ref (am 60), .long 0, .int 0, .int 0, .int 0, .int 0, .int 0, .int 0, .ref (am 68), .int 0, .int 0, .ref (am 71), .ref (am 72), .ref (am 73), .ref (am 74), .ref (am 75), .ref (am 76), .ref (am 77), .ref (am 78)])), (am 73, .inl (cs 73, 5, .inl g)), (am 74, .inl (cs 74, 5, .inl h))] → va_S A s.heap H locs → ∀ (ls : Array Slot), lv_has ls 11 [(6, .int w), (5, .int b), (4, .int a1), (0, .ref h0), (1, .int p0), (2, .int p1), (3, .int p2)] → W p l e (headSpec wsX12_days ({ frames := 1, cells := 0, slots := 0, locals := 22 })).room s m ([.ref h0, .int p0, .int p1, .int p2] : List Value).toArray below meth c H locs 0 0 (MQ below (va_Qi (fun (r : Int32) (u : Unit) => match u with | () => ((¬ (1 ≤ p0 ∧ p0 ≤ 5 ∧ 0 ≤ p1 ∧ p1 ≤ 99)) ∧ r = (-2)) ∨ (((1 ≤ p0 ∧ p0 ≤ 5 ∧ 0 ≤ p1 ∧ p1 ≤ 99) ∧ ¬ (-1 ≤ p2 ∧ p2 < p0)) ∧ r = (-1)) ∨ (((1 ≤ p0 ∧ p0 ≤ 5 ∧ 0 ≤ p1 ∧ p1 ≤ 99) ∧ -1 ≤ p2 ∧ p2 < p0) ∧ r = 0)) (fun (u : Unit) (t : State) => match u with | () => True) A) ([.ref h0, .int p0, .int p1, .int p2] : List Value).toArray s 0 0 A) (F0 m 65 ls []) := by
                intro n_l2
                induction n_l2 with
                | zero => intro w b g h hm; exact absurd hm (Nat.not_lt_zero _)
                | succ n_l2 ih_l2 =>
                  intro w b g h hm_l2 j0 j1 j2 j3 H locs hP hD hS ls hl
                  refine lv_iload hx hb dX12_days_65 (lv_at hl 0 rfl) ?_
                  refine lv_iload hx hb dX12_days_67 (lv_at hl 2 rfl) ?_
                  refine lv_icmp_ge (tgt := 215) hx hb dX12_days_69 (by decide) (fun c_9 => ?_) (fun c_9 => ?_)
                  · refine lv_iload_n hx hb dX12_days_215 rfl (lv_at hl 6 rfl) ?_
                    refine lv_if_ge (tgt := 224) hx hb dX12_days_216 (by decide) (fun c_10 => ?_) (fun c_10 => ?_)
                    · refine lv_aload_n hx hb dX12_days_224 rfl (lv_at hl 3 rfl) ?_
                      refine va_get (D := (dC, dI)) (ci := 12) (v := .ref (am 74)) (C := RX12) (T := TX12) (N := 79) hx hb hts (by decide +kernel) hown hK hP 0 rfl rfl 74 (by decide) (hts (.fieldLink RX12 155 "RedTentModel" "bestWays" "[I") (by decide +kernel)) (fun _ h9 => h9) rfl dX12_days_225 ?_
                      refine lv_iload_n hx hb dX12_days_228 rfl (lv_at hl 6 rfl) ?_
                      refine va_iald hx hb hK hP 2 1 rfl rfl (vp_in_iff.mpr (by (try simp only [fa_lt, fa_le, fa_eq, fa_lt64, fa_le64, fa_eq64, Int32.reduceToInt, Int64.reduceToInt, zi_ite] at b_2 b_4 ty_5 b_7 hm_l1 i0 i1 i2 c_8 hm_l2 j0 j1 j2 j3 c_9 c_10 ⊢) <;> omega)) dX12_days_229 ?_
                      have hv0 : (h p2.toNatClampNeg : Int32) = 0 := by
                        try simp only [fa_lt, fa_le, fa_eq, fa_lt64, fa_le64, fa_eq64, Int32.reduceToInt, Int64.reduceToInt, zi_ite] at b_2
                        try simp only [fa_lt, fa_le, fa_eq, fa_lt64, fa_le64, fa_eq64, Int32.reduceToInt, Int64.reduceToInt, zi_ite] at b_4
                        try simp only [fa_lt, fa_le, fa_eq, fa_lt64, fa_le64, fa_eq64, Int32.reduceToInt, Int64.reduceToInt, zi_ite] at ty_5
                        try simp only [fa_lt, fa_le, fa_eq, fa_lt64, fa_le64, fa_eq64, Int32.reduceToInt, Int64.reduceToInt, zi_ite] at b_7
                        try simp only [fa_lt, fa_le, fa_eq, fa_lt64, fa_le64, fa_eq64, Int32.reduceToInt, Int64.reduceToInt, zi_ite] at hm_l1
                        try simp only [fa_lt, fa_le, fa_eq, fa_lt64, fa_le64, fa_eq64, Int32.reduceToInt, Int64.reduceToInt, zi_ite] at i0
                        try simp only [fa_lt, fa_le, fa_eq, fa_lt64, fa_le64, fa_eq64, Int32.reduceToInt, Int64.reduceToInt, zi_ite] at i1
                        try simp only [fa_lt, fa_le, fa_eq, fa_lt64, fa_le64, fa_eq64, Int32.reduceToInt, Int64.reduceToInt, zi_ite] at i2
                        try simp only [fa_lt, fa_le, fa_eq, fa_lt64, fa_le64, fa_eq64, Int32.reduceToInt, Int64.reduceToInt, zi_ite] at c_8
                        try simp only [fa_lt, fa_le, fa_eq, fa_lt64, fa_le64, fa_eq64, Int32.reduceToInt, Int64.reduceToInt, zi_ite] at hm_l2
                        try simp only [fa_lt, fa_le, fa_eq, fa_lt64, fa_le64, fa_eq64, Int32.reduceToInt, Int64.reduceToInt, zi_ite] at j0
                        try simp only [fa_lt, fa_le, fa_eq, fa_lt64, fa_le64, fa_eq64, Int32.reduceToInt, Int64.reduceToInt, zi_ite] at j1
                        try simp only [fa_lt, fa_le, fa_eq, fa_lt64, fa_le64, fa_eq64, Int32.reduceToInt, Int64.reduceToInt, zi_ite] at j2
                        try simp only [fa_lt, fa_le, fa_eq, fa_lt64, fa_le64, fa_eq64, Int32.reduceToInt, Int64.reduceToInt, zi_ite] at c_9
                        try simp only [fa_lt, fa_le, fa_eq, fa_lt64, fa_le64, fa_eq64, Int32.reduceToInt, Int64.reduceToInt, zi_ite] at c_10
                        exact j3 (by omega) _ (by rw [zi_cl (by omega)]; omega)
                      have hpost : ((¬ (1 ≤ p0 ∧ p0 ≤ 5 ∧ 0 ≤ p1 ∧ p1 ≤ 99)) ∧ (h p2.toNatClampNeg : Int32) = (-2)) ∨ (((1 ≤ p0 ∧ p0 ≤ 5 ∧ 0 ≤ p1 ∧ p1 ≤ 99) ∧ ¬ (-1 ≤ p2 ∧ p2 < p0)) ∧ (h p2.toNatClampNeg : Int32) = (-1)) ∨ (((1 ≤ p0 ∧ p0 ≤ 5 ∧ 0 ≤ p1 ∧ p1 ≤ 99) ∧ -1 ≤ p2 ∧ p2 < p0) ∧ (h p2.toNatClampNeg : Int32) = 0) := by
                        try simp only [fa_lt, fa_le, fa_eq, fa_lt64, fa_le64, fa_eq64, Int32.reduceToInt, Int64.reduceToInt, zi_ite] at b_2
                        try simp only [fa_lt, fa_le, fa_eq, fa_lt64, fa_le64, fa_eq64, Int32.reduceToInt, Int64.reduceToInt, zi_ite] at b_4
                        try simp only [fa_lt, fa_le, fa_eq, fa_lt64, fa_le64, fa_eq64, Int32.reduceToInt, Int64.reduceToInt, zi_ite] at ty_5
                        try simp only [fa_lt, fa_le, fa_eq, fa_lt64, fa_le64, fa_eq64, Int32.reduceToInt, Int64.reduceToInt, zi_ite] at b_7
                        try simp only [fa_lt, fa_le, fa_eq, fa_lt64, fa_le64, fa_eq64, Int32.reduceToInt, Int64.reduceToInt, zi_ite] at hm_l1
                        try simp only [fa_lt, fa_le, fa_eq, fa_lt64, fa_le64, fa_eq64, Int32.reduceToInt, Int64.reduceToInt, zi_ite] at i0
                        try simp only [fa_lt, fa_le, fa_eq, fa_lt64, fa_le64, fa_eq64, Int32.reduceToInt, Int64.reduceToInt, zi_ite] at i1
                        try simp only [fa_lt, fa_le, fa_eq, fa_lt64, fa_le64, fa_eq64, Int32.reduceToInt, Int64.reduceToInt, zi_ite] at i2
                        try simp only [fa_lt, fa_le, fa_eq, fa_lt64, fa_le64, fa_eq64, Int32.reduceToInt, Int64.reduceToInt, zi_ite] at c_8
                        try simp only [fa_lt, fa_le, fa_eq, fa_lt64, fa_le64, fa_eq64, Int32.reduceToInt, Int64.reduceToInt, zi_ite] at hm_l2
                        try simp only [fa_lt, fa_le, fa_eq, fa_lt64, fa_le64, fa_eq64, Int32.reduceToInt, Int64.reduceToInt, zi_ite] at j0
                        try simp only [fa_lt, fa_le, fa_eq, fa_lt64, fa_le64, fa_eq64, Int32.reduceToInt, Int64.reduceToInt, zi_ite] at j1
                        try simp only [fa_lt, fa_le, fa_eq, fa_lt64, fa_le64, fa_eq64, Int32.reduceToInt, Int64.reduceToInt, zi_ite] at j2
                        try simp only [fa_lt, fa_le, fa_eq, fa_lt64, fa_le64, fa_eq64, Int32.reduceToInt, Int64.reduceToInt, zi_ite] at c_9
                        try simp only [fa_lt, fa_le, fa_eq, fa_lt64, fa_le64, fa_eq64, Int32.reduceToInt, Int64.reduceToInt, zi_ite] at c_10
                        exact Or.inr (Or.inr ⟨by (try simp only [fa_lt, fa_le, fa_eq, fa_lt64, fa_le64, fa_eq64, Int32.reduceToInt, Int64.reduceToInt, zi_ite]); omega, hv0⟩)
                      refine W.widen (k := 0) (n := 0) (by decide +kernel) (by decide +kernel) ?_
                      exact W.iret (v := h p2.toNatClampNeg) hx hb hr (fun t ht hW => ⟨⟨h p2.toNatClampNeg, (), rfl, hpost, trivial⟩, hS.F ht⟩) hS.2.2 dX12_days_230
                    · refine lv_iload hx hb dX12_days_219 (lv_at hl 1 rfl) ?_
                      refine lv_goto (tgt := 230) hx hb dX12_days_221 (by decide) ?_
                      have hv0 : (b : Int32) = 0 := by
                        try simp only [fa_lt, fa_le, fa_eq, fa_lt64, fa_le64, fa_eq64, Int32.reduceToInt, Int64.reduceToInt, zi_ite] at b_2
                        try simp only [fa_lt, fa_le, fa_eq, fa_lt64, fa_le64, fa_eq64, Int32.reduceToInt, Int64.reduceToInt, zi_ite] at b_4
                        try simp only [fa_lt, fa_le, fa_eq, fa_lt64, fa_le64, fa_eq64, Int32.reduceToInt, Int64.reduceToInt, zi_ite] at ty_5
                        try simp only [fa_lt, fa_le, fa_eq, fa_lt64, fa_le64, fa_eq64, Int32.reduceToInt, Int64.reduceToInt, zi_ite] at b_7
                        try simp only [fa_lt, fa_le, fa_eq, fa_lt64, fa_le64, fa_eq64, Int32.reduceToInt, Int64.reduceToInt, zi_ite] at hm_l1
                        try simp only [fa_lt, fa_le, fa_eq, fa_lt64, fa_le64, fa_eq64, Int32.reduceToInt, Int64.reduceToInt, zi_ite] at i0
                        try simp only [fa_lt, fa_le, fa_eq, fa_lt64, fa_le64, fa_eq64, Int32.reduceToInt, Int64.reduceToInt, zi_ite] at i1
                        try simp only [fa_lt, fa_le, fa_eq, fa_lt64, fa_le64, fa_eq64, Int32.reduceToInt, Int64.reduceToInt, zi_ite] at i2
                        try simp only [fa_lt, fa_le, fa_eq, fa_lt64, fa_le64, fa_eq64, Int32.reduceToInt, Int64.reduceToInt, zi_ite] at c_8
                        try simp only [fa_lt, fa_le, fa_eq, fa_lt64, fa_le64, fa_eq64, Int32.reduceToInt, Int64.reduceToInt, zi_ite] at hm_l2
                        try simp only [fa_lt, fa_le, fa_eq, fa_lt64, fa_le64, fa_eq64, Int32.reduceToInt, Int64.reduceToInt, zi_ite] at j0
                        try simp only [fa_lt, fa_le, fa_eq, fa_lt64, fa_le64, fa_eq64, Int32.reduceToInt, Int64.reduceToInt, zi_ite] at j1
                        try simp only [fa_lt, fa_le, fa_eq, fa_lt64, fa_le64, fa_eq64, Int32.reduceToInt, Int64.reduceToInt, zi_ite] at j2
                        try simp only [fa_lt, fa_le, fa_eq, fa_lt64, fa_le64, fa_eq64, Int32.reduceToInt, Int64.reduceToInt, zi_ite] at c_9
                        try simp only [fa_lt, fa_le, fa_eq, fa_lt64, fa_le64, fa_eq64, Int32.reduceToInt, Int64.reduceToInt, zi_ite] at c_10
                        simp only [fa_eq, Int32.reduceToInt]; omega
                      have hpost : ((¬ (1 ≤ p0 ∧ p0 ≤ 5 ∧ 0 ≤ p1 ∧ p1 ≤ 99)) ∧ (b : Int32) = (-2)) ∨ (((1 ≤ p0 ∧ p0 ≤ 5 ∧ 0 ≤ p1 ∧ p1 ≤ 99) ∧ ¬ (-1 ≤ p2 ∧ p2 < p0)) ∧ (b : Int32) = (-1)) ∨ (((1 ≤ p0 ∧ p0 ≤ 5 ∧ 0 ≤ p1 ∧ p1 ≤ 99) ∧ -1 ≤ p2 ∧ p2 < p0) ∧ (b : Int32) = 0) := by
                        try simp only [fa_lt, fa_le, fa_eq, fa_lt64, fa_le64, fa_eq64, Int32.reduceToInt, Int64.reduceToInt, zi_ite] at b_2
                        try simp only [fa_lt, fa_le, fa_eq, fa_lt64, fa_le64, fa_eq64, Int32.reduceToInt, Int64.reduceToInt, zi_ite] at b_4
                        try simp only [fa_lt, fa_le, fa_eq, fa_lt64, fa_le64, fa_eq64, Int32.reduceToInt, Int64.reduceToInt, zi_ite] at ty_5
                        try simp only [fa_lt, fa_le, fa_eq, fa_lt64, fa_le64, fa_eq64, Int32.reduceToInt, Int64.reduceToInt, zi_ite] at b_7
                        try simp only [fa_lt, fa_le, fa_eq, fa_lt64, fa_le64, fa_eq64, Int32.reduceToInt, Int64.reduceToInt, zi_ite] at hm_l1
                        try simp only [fa_lt, fa_le, fa_eq, fa_lt64, fa_le64, fa_eq64, Int32.reduceToInt, Int64.reduceToInt, zi_ite] at i0
                        try simp only [fa_lt, fa_le, fa_eq, fa_lt64, fa_le64, fa_eq64, Int32.reduceToInt, Int64.reduceToInt, zi_ite] at i1
                        try simp only [fa_lt, fa_le, fa_eq, fa_lt64, fa_le64, fa_eq64, Int32.reduceToInt, Int64.reduceToInt, zi_ite] at i2
                        try simp only [fa_lt, fa_le, fa_eq, fa_lt64, fa_le64, fa_eq64, Int32.reduceToInt, Int64.reduceToInt, zi_ite] at c_8
                        try simp only [fa_lt, fa_le, fa_eq, fa_lt64, fa_le64, fa_eq64, Int32.reduceToInt, Int64.reduceToInt, zi_ite] at hm_l2
                        try simp only [fa_lt, fa_le, fa_eq, fa_lt64, fa_le64, fa_eq64, Int32.reduceToInt, Int64.reduceToInt, zi_ite] at j0
                        try simp only [fa_lt, fa_le, fa_eq, fa_lt64, fa_le64, fa_eq64, Int32.reduceToInt, Int64.reduceToInt, zi_ite] at j1
                        try simp only [fa_lt, fa_le, fa_eq, fa_lt64, fa_le64, fa_eq64, Int32.reduceToInt, Int64.reduceToInt, zi_ite] at j2
                        try simp only [fa_lt, fa_le, fa_eq, fa_lt64, fa_le64, fa_eq64, Int32.reduceToInt, Int64.reduceToInt, zi_ite] at c_9
                        try simp only [fa_lt, fa_le, fa_eq, fa_lt64, fa_le64, fa_eq64, Int32.reduceToInt, Int64.reduceToInt, zi_ite] at c_10
                        exact Or.inr (Or.inr ⟨by (try simp only [fa_lt, fa_le, fa_eq, fa_lt64, fa_le64, fa_eq64, Int32.reduceToInt, Int64.reduceToInt, zi_ite]); omega, hv0⟩)
                      refine W.widen (k := 0) (n := 0) (by decide +kernel) (by decide +kernel) ?_
                      exact W.iret (v := b) hx hb hr (fun t ht hW => ⟨⟨b, (), rfl, hpost, trivial⟩, hS.F ht⟩) hS.2.2 dX12_days_230
                  · refine lv_iload hx hb dX12_days_72 (lv_at hl 0 rfl) ?_
                    refine lv_istore (lv' := [(7, .int w), (6, .int w), (5, .int b), (4, .int a1), (0, .ref h0), (1, .int p0), (2, .int p1), (3, .int p2)]) hx hb dX12_days_74 hl (by decide) rfl (fun ls hl => ?_)
                    refine lv_iload_n hx hb dX12_days_76 rfl (lv_at hl 5 rfl) ?_
                    refine lv_iconst (v := 1) hx hb dX12_days_77 (by decide) ?_
                    refine lv_isub hx hb dX12_days_78 ?_
                    refine lv_topi (fun y_11 ey_11 => ?_)
                    have ty_11 : y_11.toInt = p0.toInt - 1 := by
                      try simp only [fa_lt, fa_le, fa_eq, fa_lt64, fa_le64, fa_eq64, Int32.reduceToInt, Int64.reduceToInt, zi_ite] at b_2
                      try simp only [fa_lt, fa_le, fa_eq, fa_lt64, fa_le64, fa_eq64, Int32.reduceToInt, Int64.reduceToInt, zi_ite] at b_4
                      try simp only [fa_lt, fa_le, fa_eq, fa_lt64, fa_le64, fa_eq64, Int32.reduceToInt, Int64.reduceToInt, zi_ite] at ty_5
                      try simp only [fa_lt, fa_le, fa_eq, fa_lt64, fa_le64, fa_eq64, Int32.reduceToInt, Int64.reduceToInt, zi_ite] at b_7
                      try simp only [fa_lt, fa_le, fa_eq, fa_lt64, fa_le64, fa_eq64, Int32.reduceToInt, Int64.reduceToInt, zi_ite] at hm_l1
                      try simp only [fa_lt, fa_le, fa_eq, fa_lt64, fa_le64, fa_eq64, Int32.reduceToInt, Int64.reduceToInt, zi_ite] at i0
                      try simp only [fa_lt, fa_le, fa_eq, fa_lt64, fa_le64, fa_eq64, Int32.reduceToInt, Int64.reduceToInt, zi_ite] at i1
                      try simp only [fa_lt, fa_le, fa_eq, fa_lt64, fa_le64, fa_eq64, Int32.reduceToInt, Int64.reduceToInt, zi_ite] at i2
                      try simp only [fa_lt, fa_le, fa_eq, fa_lt64, fa_le64, fa_eq64, Int32.reduceToInt, Int64.reduceToInt, zi_ite] at c_8
                      try simp only [fa_lt, fa_le, fa_eq, fa_lt64, fa_le64, fa_eq64, Int32.reduceToInt, Int64.reduceToInt, zi_ite] at hm_l2
                      try simp only [fa_lt, fa_le, fa_eq, fa_lt64, fa_le64, fa_eq64, Int32.reduceToInt, Int64.reduceToInt, zi_ite] at j0
                      try simp only [fa_lt, fa_le, fa_eq, fa_lt64, fa_le64, fa_eq64, Int32.reduceToInt, Int64.reduceToInt, zi_ite] at j1
                      try simp only [fa_lt, fa_le, fa_eq, fa_lt64, fa_le64, fa_eq64, Int32.reduceToInt, Int64.reduceToInt, zi_ite] at j2
                      try simp only [fa_lt, fa_le, fa_eq, fa_lt64, fa_le64, fa_eq64, Int32.reduceToInt, Int64.reduceToInt, zi_ite] at j3
                      try simp only [fa_lt, fa_le, fa_eq, fa_lt64, fa_le64, fa_eq64, Int32.reduceToInt, Int64.reduceToInt, zi_ite] at c_9
                      rw [ey_11]; exact (zi_sub _ _ (by (try simp only [Int32.reduceToInt]) <;> omega) (by (try simp only [Int32.reduceToInt]) <;> omega))
                    refine lv_istore (lv' := [(8, .int y_11), (7, .int w), (6, .int w), (5, .int b), (4, .int a1), (0, .ref h0), (1, .int p0), (2, .int p1), (3, .int p2)]) hx hb dX12_days_79 hl (by decide) rfl (fun ls hl => ?_)
                    try simp only [fa_lt, fa_le, fa_eq, fa_lt64, fa_le64, fa_eq64, Int32.reduceToInt, Int64.reduceToInt, zi_ite] at b_2
                    try simp only [fa_lt, fa_le, fa_eq, fa_lt64, fa_le64, fa_eq64, Int32.reduceToInt, Int64.reduceToInt, zi_ite] at b_4
                    try simp only [fa_lt, fa_le, fa_eq, fa_lt64, fa_le64, fa_eq64, Int32.reduceToInt, Int64.reduceToInt, zi_ite] at ty_5
                    try simp only [fa_lt, fa_le, fa_eq, fa_lt64, fa_le64, fa_eq64, Int32.reduceToInt, Int64.reduceToInt, zi_ite] at b_7
                    try simp only [fa_lt, fa_le, fa_eq, fa_lt64, fa_le64, fa_eq64, Int32.reduceToInt, Int64.reduceToInt, zi_ite] at hm_l1
                    try simp only [fa_lt, fa_le, fa_eq, fa_lt64, fa_le64, fa_eq64, Int32.reduceToInt, Int64.reduceToInt, zi_ite] at i0
                    try simp only [fa_lt, fa_le, fa_eq, fa_lt64, fa_le64, fa_eq64, Int32.reduceToInt, Int64.reduceToInt, zi_ite] at i1
                    try simp only [fa_lt, fa_le, fa_eq, fa_lt64, fa_le64, fa_eq64, Int32.reduceToInt, Int64.reduceToInt, zi_ite] at i2
                    try simp only [fa_lt, fa_le, fa_eq, fa_lt64, fa_le64, fa_eq64, Int32.reduceToInt, Int64.reduceToInt, zi_ite] at c_8
                    try simp only [fa_lt, fa_le, fa_eq, fa_lt64, fa_le64, fa_eq64, Int32.reduceToInt, Int64.reduceToInt, zi_ite] at hm_l2
                    try simp only [fa_lt, fa_le, fa_eq, fa_lt64, fa_le64, fa_eq64, Int32.reduceToInt, Int64.reduceToInt, zi_ite] at j0
                    try simp only [fa_lt, fa_le, fa_eq, fa_lt64, fa_le64, fa_eq64, Int32.reduceToInt, Int64.reduceToInt, zi_ite] at j1
                    try simp only [fa_lt, fa_le, fa_eq, fa_lt64, fa_le64, fa_eq64, Int32.reduceToInt, Int64.reduceToInt, zi_ite] at j2
                    try simp only [fa_lt, fa_le, fa_eq, fa_lt64, fa_le64, fa_eq64, Int32.reduceToInt, Int64.reduceToInt, zi_ite] at c_9
                    try simp only [fa_lt, fa_le, fa_eq, fa_lt64, fa_le64, fa_eq64, Int32.reduceToInt, Int64.reduceToInt, zi_ite] at ty_11
                    have l3 : ∀ (n_l3 : Nat) (d8 : Int32) (lf : Int32) (g3 : Nat → Int32), (d8.toInt + 1).toNat < n_l3 → -1 ≤ d8.toInt → d8.toInt < p0.toInt → (w.toInt = 0 → lf.toInt = 0) → (w.toInt = 0 → ∀ j : Nat, d8.toInt < (j : Int) → (j : Int) < p0.toInt → g3 j = 0) → ∀ (H : Heap) (locs : List Loc), va_P (dC, dI) vwCl [(h0, .inr (12, [.int 0, .int 0, .ref (am 2), .ref (am 3), .ref (am 4), .int 0, .ref (am 6), .ref (am 7), .ref (am 8), .int 0, .ref (am 10), .ref (am 11), .ref (am 12), .ref (am 13), .ref (am 14), .ref (am 15), .int 0, .ref (am 17), .ref (am 18), .ref (am 19), .ref (am 20), .int 0, .ref (am 22), .int 0, .ref (am 24), .ref (am 25), .ref (am 26), .ref (am 27), .ref (am 28), .ref (am 29), .int 0, .ref (am 31), .ref (am 32), .ref (am 33), .int 0, .ref (am 35), .int 0, .ref (am 37), .ref (am 38), .ref (am 39), .ref (am 40), .ref (am 41), .ref (am 42), .ref (am 43), .int 0, .ref (am 45), .ref (am 46), .ref (am 47), .int 0, .ref (am 49), .int 0, .ref (am 51), .int 0, .ref (am 53), .ref (am 54), .int 1, .int 0, .ref (am 57), .long 0, .ref (am 59), .ref (am 60), .long 0, .int 0, .int 0, .int 0, .int 0, .int 0, .int 0, .ref (am 68), .int 0, .int 0, .ref (am 71), .ref (am 72), .ref (am 73), .ref (am 74), .ref (am 75), .ref (am 76), .ref (am 77), .ref (am 78)])), (am 73, .inl (cs 73, 5, .inl g3)), (am 74, .inl (cs 74, 5, .inl h))] H → va_D A [(h0, .inr (12, [.int 0, .int 0, .ref (am 2), .ref (am 3), .ref (am 4), .int 0, .ref (am 6), .ref (am 7), .ref (am 8), .int 0, .ref (am 10), .ref (am 11), .ref (am 12), .ref (am 13), .ref (am 14), .ref (am 15), .int 0, .ref (am 17), .ref (am 18), .ref (am 19), .ref (am 20), .int 0, .ref (am 22), .int 0, .ref (am 24), .ref (am 25), .ref (am 26), .ref (am 27), .ref (am 28), .ref (am 29), .int 0, .ref (am 31), .ref (am 32), .ref (am 33), .int 0, .ref (am 35), .int 0, .ref (am 37), .ref (am 38), .ref (am 39), .ref (am 40), .ref (am 41), .ref (am 42), .ref (am 43), .int 0, .ref (am 45), .ref (am 46), .ref (am 47), .int 0, .ref (am 49), .int 0, .ref (am 51), .int 0, .ref (am 53), .ref (am 54), .int 1, .int 0, .ref (am 57), .long 0, .ref (am 59), .ref (am 60), .long 0, .int 0, .int 0, .int 0, .int 0, .int 0, .int 0, .ref (am 68), .int 0, .int 0, .ref (am 71), .ref (am 72), .ref (am 73), .ref (am 74), .ref (am 75), .ref (am 76), .ref (am 77), .ref (am 78)])), (am 73, .inl (cs 73, 5, .inl g3)), (am 74, .inl (cs 74, 5, .inl h))] → va_S A s.heap H locs → ∀ (ls : Array Slot), lv_has ls 11 [(8, .int d8), (7, .int lf), (6, .int w), (5, .int b), (4, .int a1), (0, .ref h0), (1, .int p0), (2, .int p1), (3, .int p2)] → W p l e (headSpec wsX12_days ({ frames := 1, cells := 0, slots := 0, locals := 22 })).room s m ([.ref h0, .int p0, .int p1, .int p2] : List Value).toArray below meth c H locs 0 0 (MQ below (va_Qi (fun (r : Int32) (u : Unit) => match u with | () => ((¬ (1 ≤ p0 ∧ p0 ≤ 5 ∧ 0 ≤ p1 ∧ p1 ≤ 99)) ∧ r = (-2)) ∨ (((1 ≤ p0 ∧ p0 ≤ 5 ∧ 0 ≤ p1 ∧ p1 ≤ 99) ∧ ¬ (-1 ≤ p2 ∧ p2 < p0)) ∧ r = (-1)) ∨ (((1 ≤ p0 ∧ p0 ≤ 5 ∧ 0 ≤ p1 ∧ p1 ≤ 99) ∧ -1 ≤ p2 ∧ p2 < p0) ∧ r = 0)) (fun (u : Unit) (t : State) => match u with | () => True) A) ([.ref h0, .int p0, .int p1, .int p2] : List Value).toArray s 0 0 A) (F0 m 81 ls []) := by
                      intro n_l3
                      induction n_l3 with
                      | zero => intro d8 lf g3 hm; exact absurd hm (Nat.not_lt_zero _)
                      | succ n_l3 ih_l3 =>
                        intro d8 lf g3 hm_l3 k0 k1 k2 k3 H locs hP hD hS ls hl
                        refine lv_iload hx hb dX12_days_81 (lv_at hl 0 rfl) ?_
                        refine lv_if_lt (tgt := 109) hx hb dX12_days_83 (by decide) (fun c_12 => ?_) (fun c_12 => ?_)
                        · refine lv_aload_n hx hb dX12_days_109 rfl (lv_at hl 5 rfl) ?_
                          refine va_get (D := (dC, dI)) (ci := 12) (v := .int 0) (C := RX12) (T := TX12) (N := 79) hx hb hts (by decide +kernel) hown hK hP 0 rfl rfl 50 (by decide) (hts (.fieldLink RX12 448 "RedTentModel" "rows" "I") (by decide +kernel)) (fun _ h9 => h9) rfl dX12_days_110 ?_
                          refine lv_if_ne (tgt := 120) hx hb dX12_days_113 (by decide) (fun c9 => absurd (by decide) c9) (fun _ => ?_)
                          refine lv_iconst (v := 0) hx hb dX12_days_116 (by decide) ?_
                          refine lv_goto (tgt := 123) hx hb dX12_days_117 (by decide) ?_
                          refine lv_istore (lv' := [(8, .int 0), (7, .int lf), (6, .int w), (5, .int b), (4, .int a1), (0, .ref h0), (1, .int p0), (2, .int p1), (3, .int p2)]) hx hb dX12_days_123 hl (by decide) rfl (fun ls hl => ?_)
                          refine lv_iconst (v := 0) hx hb dX12_days_125 (by decide) ?_
                          refine lv_istore (lv' := [(9, .int 0), (8, .int 0), (7, .int lf), (6, .int w), (5, .int b), (4, .int a1), (0, .ref h0), (1, .int p0), (2, .int p1), (3, .int p2)]) hx hb dX12_days_126 hl (by decide) rfl (fun ls hl => ?_)
                          refine lv_iload hx hb dX12_days_128 (lv_at hl 0 rfl) ?_
                          refine lv_aload_n hx hb dX12_days_130 rfl (lv_at hl 6 rfl) ?_
                          refine va_get (D := (dC, dI)) (ci := 12) (v := .int 0) (C := RX12) (T := TX12) (N := 79) hx hb hts (by decide +kernel) hown hK hP 0 rfl rfl 50 (by decide) (hts (.fieldLink RX12 448 "RedTentModel" "rows" "I") (by decide +kernel)) (fun _ h9 => h9) rfl dX12_days_131 ?_
                          refine lv_icmp_ge (tgt := 169) hx hb dX12_days_134 (by decide) (fun _ => ?_) (fun c9 => absurd (by decide) c9)
                          refine lv_iload hx hb dX12_days_169 (lv_at hl 1 rfl) ?_
                          refine lv_iload hx hb dX12_days_171 (lv_at hl 4 rfl) ?_
                          refine lv_icmp_le (tgt := 209) hx hb dX12_days_173 (by decide) (fun c_13 => ?_) (fun c_13 => ?_)
                          · obtain ⟨x_14, ex_14⟩ : ∃ y : Int32, y = w + 1 := ⟨_, rfl⟩
                            refine lv_iinc (v := x_14) (lv' := [(6, .int x_14), (9, .int 0), (8, .int 0), (7, .int lf), (5, .int b), (4, .int a1), (0, .ref h0), (1, .int p0), (2, .int p1), (3, .int p2)]) hx hb dX12_days_209 hl (k := 3) rfl (by rw [ex_14]; rfl) (by decide) rfl (fun ls hl => ?_)
                            refine lv_goto (tgt := 65) hx hb dX12_days_212 (by decide) ?_
                            try simp only [fa_lt, fa_le, fa_eq, fa_lt64, fa_le64, fa_eq64, Int32.reduceToInt, Int64.reduceToInt, zi_ite] at b_2
                            try simp only [fa_lt, fa_le, fa_eq, fa_lt64, fa_le64, fa_eq64, Int32.reduceToInt, Int64.reduceToInt, zi_ite] at b_4
                            try simp only [fa_lt, fa_le, fa_eq, fa_lt64, fa_le64, fa_eq64, Int32.reduceToInt, Int64.reduceToInt, zi_ite] at ty_5
                            try simp only [fa_lt, fa_le, fa_eq, fa_lt64, fa_le64, fa_eq64, Int32.reduceToInt, Int64.reduceToInt, zi_ite] at b_7
                            try simp only [fa_lt, fa_le, fa_eq, fa_lt64, fa_le64, fa_eq64, Int32.reduceToInt, Int64.reduceToInt, zi_ite] at hm_l1
                            try simp only [fa_lt, fa_le, fa_eq, fa_lt64, fa_le64, fa_eq64, Int32.reduceToInt, Int64.reduceToInt, zi_ite] at i0
                            try simp only [fa_lt, fa_le, fa_eq, fa_lt64, fa_le64, fa_eq64, Int32.reduceToInt, Int64.reduceToInt, zi_ite] at i1
                            try simp only [fa_lt, fa_le, fa_eq, fa_lt64, fa_le64, fa_eq64, Int32.reduceToInt, Int64.reduceToInt, zi_ite] at i2
                            try simp only [fa_lt, fa_le, fa_eq, fa_lt64, fa_le64, fa_eq64, Int32.reduceToInt, Int64.reduceToInt, zi_ite] at c_8
                            try simp only [fa_lt, fa_le, fa_eq, fa_lt64, fa_le64, fa_eq64, Int32.reduceToInt, Int64.reduceToInt, zi_ite] at hm_l2
                            try simp only [fa_lt, fa_le, fa_eq, fa_lt64, fa_le64, fa_eq64, Int32.reduceToInt, Int64.reduceToInt, zi_ite] at j0
                            try simp only [fa_lt, fa_le, fa_eq, fa_lt64, fa_le64, fa_eq64, Int32.reduceToInt, Int64.reduceToInt, zi_ite] at j1
                            try simp only [fa_lt, fa_le, fa_eq, fa_lt64, fa_le64, fa_eq64, Int32.reduceToInt, Int64.reduceToInt, zi_ite] at j2
                            try simp only [fa_lt, fa_le, fa_eq, fa_lt64, fa_le64, fa_eq64, Int32.reduceToInt, Int64.reduceToInt, zi_ite] at c_9
                            try simp only [fa_lt, fa_le, fa_eq, fa_lt64, fa_le64, fa_eq64, Int32.reduceToInt, Int64.reduceToInt, zi_ite] at ty_11
                            try simp only [fa_lt, fa_le, fa_eq, fa_lt64, fa_le64, fa_eq64, Int32.reduceToInt, Int64.reduceToInt, zi_ite] at hm_l3
                            try simp only [fa_lt, fa_le, fa_eq, fa_lt64, fa_le64, fa_eq64, Int32.reduceToInt, Int64.reduceToInt, zi_ite] at k0
                            try simp only [fa_lt, fa_le, fa_eq, fa_lt64, fa_le64, fa_eq64, Int32.reduceToInt, Int64.reduceToInt, zi_ite] at k1
                            try simp only [fa_lt, fa_le, fa_eq, fa_lt64, fa_le64, fa_eq64, Int32.reduceToInt, Int64.reduceToInt, zi_ite] at k2
                            try simp only [fa_lt, fa_le, fa_eq, fa_lt64, fa_le64, fa_eq64, Int32.reduceToInt, Int64.reduceToInt, zi_ite] at c_12
                            try simp only [fa_lt, fa_le, fa_eq, fa_lt64, fa_le64, fa_eq64, Int32.reduceToInt, Int64.reduceToInt, zi_ite] at c_13
                            have tx_14 : x_14.toInt = w.toInt + 1 := by rw [ex_14]; exact zi_inc (by omega)
                            exact ih_l2 x_14 b g3 h (by omega) (by omega) (by omega) (by omega) (fun _ => j3 (by omega)) _ _ hP hD hS ls (lv_sub hl [0, 4, 5, 6, 7, 8, 9] rfl)
                          · refine lv_iload hx hb dX12_days_176 (lv_at hl 1 rfl) ?_
                            refine lv_istore (lv' := [(5, .int 0), (9, .int 0), (8, .int 0), (7, .int lf), (6, .int w), (4, .int a1), (0, .ref h0), (1, .int p0), (2, .int p1), (3, .int p2)]) hx hb dX12_days_178 hl (by decide) rfl (fun ls hl => ?_)
                            refine lv_iconst (v := 0) hx hb dX12_days_180 (by decide) ?_
                            refine lv_istore (lv' := [(9, .int 0), (5, .int 0), (8, .int 0), (7, .int lf), (6, .int w), (4, .int a1), (0, .ref h0), (1, .int p0), (2, .int p1), (3, .int p2)]) hx hb dX12_days_181 hl (by decide) rfl (fun ls hl => ?_)
                            try simp only [fa_lt, fa_le, fa_eq, fa_lt64, fa_le64, fa_eq64, Int32.reduceToInt, Int64.reduceToInt, zi_ite] at b_2
                            try simp only [fa_lt, fa_le, fa_eq, fa_lt64, fa_le64, fa_eq64, Int32.reduceToInt, Int64.reduceToInt, zi_ite] at b_4
                            try simp only [fa_lt, fa_le, fa_eq, fa_lt64, fa_le64, fa_eq64, Int32.reduceToInt, Int64.reduceToInt, zi_ite] at ty_5
                            try simp only [fa_lt, fa_le, fa_eq, fa_lt64, fa_le64, fa_eq64, Int32.reduceToInt, Int64.reduceToInt, zi_ite] at b_7
                            try simp only [fa_lt, fa_le, fa_eq, fa_lt64, fa_le64, fa_eq64, Int32.reduceToInt, Int64.reduceToInt, zi_ite] at hm_l1
                            try simp only [fa_lt, fa_le, fa_eq, fa_lt64, fa_le64, fa_eq64, Int32.reduceToInt, Int64.reduceToInt, zi_ite] at i0
                            try simp only [fa_lt, fa_le, fa_eq, fa_lt64, fa_le64, fa_eq64, Int32.reduceToInt, Int64.reduceToInt, zi_ite] at i1
                            try simp only [fa_lt, fa_le, fa_eq, fa_lt64, fa_le64, fa_eq64, Int32.reduceToInt, Int64.reduceToInt, zi_ite] at i2
                            try simp only [fa_lt, fa_le, fa_eq, fa_lt64, fa_le64, fa_eq64, Int32.reduceToInt, Int64.reduceToInt, zi_ite] at c_8
                            try simp only [fa_lt, fa_le, fa_eq, fa_lt64, fa_le64, fa_eq64, Int32.reduceToInt, Int64.reduceToInt, zi_ite] at hm_l2
                            try simp only [fa_lt, fa_le, fa_eq, fa_lt64, fa_le64, fa_eq64, Int32.reduceToInt, Int64.reduceToInt, zi_ite] at j0
                            try simp only [fa_lt, fa_le, fa_eq, fa_lt64, fa_le64, fa_eq64, Int32.reduceToInt, Int64.reduceToInt, zi_ite] at j1
                            try simp only [fa_lt, fa_le, fa_eq, fa_lt64, fa_le64, fa_eq64, Int32.reduceToInt, Int64.reduceToInt, zi_ite] at j2
                            try simp only [fa_lt, fa_le, fa_eq, fa_lt64, fa_le64, fa_eq64, Int32.reduceToInt, Int64.reduceToInt, zi_ite] at c_9
                            try simp only [fa_lt, fa_le, fa_eq, fa_lt64, fa_le64, fa_eq64, Int32.reduceToInt, Int64.reduceToInt, zi_ite] at ty_11
                            try simp only [fa_lt, fa_le, fa_eq, fa_lt64, fa_le64, fa_eq64, Int32.reduceToInt, Int64.reduceToInt, zi_ite] at hm_l3
                            try simp only [fa_lt, fa_le, fa_eq, fa_lt64, fa_le64, fa_eq64, Int32.reduceToInt, Int64.reduceToInt, zi_ite] at k0
                            try simp only [fa_lt, fa_le, fa_eq, fa_lt64, fa_le64, fa_eq64, Int32.reduceToInt, Int64.reduceToInt, zi_ite] at k1
                            try simp only [fa_lt, fa_le, fa_eq, fa_lt64, fa_le64, fa_eq64, Int32.reduceToInt, Int64.reduceToInt, zi_ite] at k2
                            try simp only [fa_lt, fa_le, fa_eq, fa_lt64, fa_le64, fa_eq64, Int32.reduceToInt, Int64.reduceToInt, zi_ite] at c_12
                            try simp only [fa_lt, fa_le, fa_eq, fa_lt64, fa_le64, fa_eq64, Int32.reduceToInt, Int64.reduceToInt, zi_ite] at c_13
                            have l4 : ∀ (n_l4 : Nat) (d9 : Int32) (h4 : Nat → Int32), (p0.toInt - d9.toInt).toNat < n_l4 → 0 ≤ d9.toInt → d9.toInt ≤ p0.toInt → (∀ j : Nat, (j : Int) < d9.toInt → h4 j = 0) → ∀ (H : Heap) (locs : List Loc), va_P (dC, dI) vwCl [(h0, .inr (12, [.int 0, .int 0, .ref (am 2), .ref (am 3), .ref (am 4), .int 0, .ref (am 6), .ref (am 7), .ref (am 8), .int 0, .ref (am 10), .ref (am 11), .ref (am 12), .ref (am 13), .ref (am 14), .ref (am 15), .int 0, .ref (am 17), .ref (am 18), .ref (am 19), .ref (am 20), .int 0, .ref (am 22), .int 0, .ref (am 24), .ref (am 25), .ref (am 26), .ref (am 27), .ref (am 28), .ref (am 29), .int 0, .ref (am 31), .ref (am 32), .ref (am 33), .int 0, .ref (am 35), .int 0, .ref (am 37), .ref (am 38), .ref (am 39), .ref (am 40), .ref (am 41), .ref (am 42), .ref (am 43), .int 0, .ref (am 45), .ref (am 46), .ref (am 47), .int 0, .ref (am 49), .int 0, .ref (am 51), .int 0, .ref (am 53), .ref (am 54), .int 1, .int 0, .ref (am 57), .long 0, .ref (am 59), .ref (am 60), .long 0, .int 0, .int 0, .int 0, .int 0, .int 0, .int 0, .ref (am 68), .int 0, .int 0, .ref (am 71), .ref (am 72), .ref (am 73), .ref (am 74), .ref (am 75), .ref (am 76), .ref (am 77), .ref (am 78)])), (am 73, .inl (cs 73, 5, .inl g3)), (am 74, .inl (cs 74, 5, .inl h4))] H → va_D A [(h0, .inr (12, [.int 0, .int 0, .ref (am 2), .ref (am 3), .ref (am 4), .int 0, .ref (am 6), .ref (am 7), .ref (am 8), .int 0, .ref (am 10), .ref (am 11), .ref (am 12), .ref (am 13), .ref (am 14), .ref (am 15), .int 0, .ref (am 17), .ref (am 18), .ref (am 19), .ref (am 20), .int 0, .ref (am 22), .int 0, .ref (am 24), .ref (am 25), .ref (am 26), .ref (am 27), .ref (am 28), .ref (am 29), .int 0, .ref (am 31), .ref (am 32), .ref (am 33), .int 0, .ref (am 35), .int 0, .ref (am 37), .ref (am 38), .ref (am 39), .ref (am 40), .ref (am 41), .ref (am 42), .ref (am 43), .int 0, .ref (am 45), .ref (am 46), .ref (am 47), .int 0, .ref (am 49), .int 0, .ref (am 51), .int 0, .ref (am 53), .ref (am 54), .int 1, .int 0, .ref (am 57), .long 0, .ref (am 59), .ref (am 60), .long 0, .int 0, .int 0, .int 0, .int 0, .int 0, .int 0, .ref (am 68), .int 0, .int 0, .ref (am 71), .ref (am 72), .ref (am 73), .ref (am 74), .ref (am 75), .ref (am 76), .ref (am 77), .ref (am 78)])), (am 73, .inl (cs 73, 5, .inl g3)), (am 74, .inl (cs 74, 5, .inl h4))] → va_S A s.heap H locs → ∀ (ls : Array Slot), lv_has ls 11 [(9, .int d9), (5, .int 0), (8, .int 0), (7, .int lf), (6, .int w), (4, .int a1), (0, .ref h0), (1, .int p0), (2, .int p1), (3, .int p2)] → W p l e (headSpec wsX12_days ({ frames := 1, cells := 0, slots := 0, locals := 22 })).room s m ([.ref h0, .int p0, .int p1, .int p2] : List Value).toArray below meth c H locs 0 0 (MQ below (va_Qi (fun (r : Int32) (u : Unit) => match u with | () => ((¬ (1 ≤ p0 ∧ p0 ≤ 5 ∧ 0 ≤ p1 ∧ p1 ≤ 99)) ∧ r = (-2)) ∨ (((1 ≤ p0 ∧ p0 ≤ 5 ∧ 0 ≤ p1 ∧ p1 ≤ 99) ∧ ¬ (-1 ≤ p2 ∧ p2 < p0)) ∧ r = (-1)) ∨ (((1 ≤ p0 ∧ p0 ≤ 5 ∧ 0 ≤ p1 ∧ p1 ≤ 99) ∧ -1 ≤ p2 ∧ p2 < p0) ∧ r = 0)) (fun (u : Unit) (t : State) => match u with | () => True) A) ([.ref h0, .int p0, .int p1, .int p2] : List Value).toArray s 0 0 A) (F0 m 183 ls []) := by
                              intro n_l4
                              induction n_l4 with
                              | zero => intro d9 h4 hm; exact absurd hm (Nat.not_lt_zero _)
                              | succ n_l4 ih_l4 =>
                                intro d9 h4 hm_l4 m0 m1 m2 H locs hP hD hS ls hl
                                refine lv_iload hx hb dX12_days_183 (lv_at hl 0 rfl) ?_
                                refine lv_iload_n hx hb dX12_days_185 rfl (lv_at hl 7 rfl) ?_
                                refine lv_icmp_ge (tgt := 209) hx hb dX12_days_186 (by decide) (fun c_15 => ?_) (fun c_15 => ?_)
                                · obtain ⟨x_16, ex_16⟩ : ∃ y : Int32, y = w + 1 := ⟨_, rfl⟩
                                  refine lv_iinc (v := x_16) (lv' := [(6, .int x_16), (9, .int d9), (5, .int 0), (8, .int 0), (7, .int lf), (4, .int a1), (0, .ref h0), (1, .int p0), (2, .int p1), (3, .int p2)]) hx hb dX12_days_209 hl (k := 4) rfl (by rw [ex_16]; rfl) (by decide) rfl (fun ls hl => ?_)
                                  refine lv_goto (tgt := 65) hx hb dX12_days_212 (by decide) ?_
                                  try simp only [fa_lt, fa_le, fa_eq, fa_lt64, fa_le64, fa_eq64, Int32.reduceToInt, Int64.reduceToInt, zi_ite] at b_2
                                  try simp only [fa_lt, fa_le, fa_eq, fa_lt64, fa_le64, fa_eq64, Int32.reduceToInt, Int64.reduceToInt, zi_ite] at b_4
                                  try simp only [fa_lt, fa_le, fa_eq, fa_lt64, fa_le64, fa_eq64, Int32.reduceToInt, Int64.reduceToInt, zi_ite] at ty_5
                                  try simp only [fa_lt, fa_le, fa_eq, fa_lt64, fa_le64, fa_eq64, Int32.reduceToInt, Int64.reduceToInt, zi_ite] at b_7
                                  try simp only [fa_lt, fa_le, fa_eq, fa_lt64, fa_le64, fa_eq64, Int32.reduceToInt, Int64.reduceToInt, zi_ite] at hm_l1
                                  try simp only [fa_lt, fa_le, fa_eq, fa_lt64, fa_le64, fa_eq64, Int32.reduceToInt, Int64.reduceToInt, zi_ite] at i0
                                  try simp only [fa_lt, fa_le, fa_eq, fa_lt64, fa_le64, fa_eq64, Int32.reduceToInt, Int64.reduceToInt, zi_ite] at i1
                                  try simp only [fa_lt, fa_le, fa_eq, fa_lt64, fa_le64, fa_eq64, Int32.reduceToInt, Int64.reduceToInt, zi_ite] at i2
                                  try simp only [fa_lt, fa_le, fa_eq, fa_lt64, fa_le64, fa_eq64, Int32.reduceToInt, Int64.reduceToInt, zi_ite] at c_8
                                  try simp only [fa_lt, fa_le, fa_eq, fa_lt64, fa_le64, fa_eq64, Int32.reduceToInt, Int64.reduceToInt, zi_ite] at hm_l2
                                  try simp only [fa_lt, fa_le, fa_eq, fa_lt64, fa_le64, fa_eq64, Int32.reduceToInt, Int64.reduceToInt, zi_ite] at j0
                                  try simp only [fa_lt, fa_le, fa_eq, fa_lt64, fa_le64, fa_eq64, Int32.reduceToInt, Int64.reduceToInt, zi_ite] at j1
                                  try simp only [fa_lt, fa_le, fa_eq, fa_lt64, fa_le64, fa_eq64, Int32.reduceToInt, Int64.reduceToInt, zi_ite] at j2
                                  try simp only [fa_lt, fa_le, fa_eq, fa_lt64, fa_le64, fa_eq64, Int32.reduceToInt, Int64.reduceToInt, zi_ite] at c_9
                                  try simp only [fa_lt, fa_le, fa_eq, fa_lt64, fa_le64, fa_eq64, Int32.reduceToInt, Int64.reduceToInt, zi_ite] at ty_11
                                  try simp only [fa_lt, fa_le, fa_eq, fa_lt64, fa_le64, fa_eq64, Int32.reduceToInt, Int64.reduceToInt, zi_ite] at hm_l3
                                  try simp only [fa_lt, fa_le, fa_eq, fa_lt64, fa_le64, fa_eq64, Int32.reduceToInt, Int64.reduceToInt, zi_ite] at k0
                                  try simp only [fa_lt, fa_le, fa_eq, fa_lt64, fa_le64, fa_eq64, Int32.reduceToInt, Int64.reduceToInt, zi_ite] at k1
                                  try simp only [fa_lt, fa_le, fa_eq, fa_lt64, fa_le64, fa_eq64, Int32.reduceToInt, Int64.reduceToInt, zi_ite] at k2
                                  try simp only [fa_lt, fa_le, fa_eq, fa_lt64, fa_le64, fa_eq64, Int32.reduceToInt, Int64.reduceToInt, zi_ite] at c_12
                                  try simp only [fa_lt, fa_le, fa_eq, fa_lt64, fa_le64, fa_eq64, Int32.reduceToInt, Int64.reduceToInt, zi_ite] at c_13
                                  try simp only [fa_lt, fa_le, fa_eq, fa_lt64, fa_le64, fa_eq64, Int32.reduceToInt, Int64.reduceToInt, zi_ite] at hm_l4
                                  try simp only [fa_lt, fa_le, fa_eq, fa_lt64, fa_le64, fa_eq64, Int32.reduceToInt, Int64.reduceToInt, zi_ite] at m0
                                  try simp only [fa_lt, fa_le, fa_eq, fa_lt64, fa_le64, fa_eq64, Int32.reduceToInt, Int64.reduceToInt, zi_ite] at m1
                                  try simp only [fa_lt, fa_le, fa_eq, fa_lt64, fa_le64, fa_eq64, Int32.reduceToInt, Int64.reduceToInt, zi_ite] at c_15
                                  have tx_16 : x_16.toInt = w.toInt + 1 := by rw [ex_16]; exact zi_inc (by omega)
                                  exact ih_l2 x_16 0 g3 h4 (by omega) (by omega) (by omega) (Or.inr ⟨by omega, by decide⟩) (fun _ j hj => m2 j (by omega)) _ _ hP hD hS ls (lv_sub hl [0, 2, 5, 6, 7, 8, 9] rfl)
                                · refine lv_aload_n hx hb dX12_days_189 rfl (lv_at hl 6 rfl) ?_
                                  refine va_get (D := (dC, dI)) (ci := 12) (v := .ref (am 74)) (C := RX12) (T := TX12) (N := 79) hx hb hts (by decide +kernel) hown hK hP 0 rfl rfl 74 (by decide) (hts (.fieldLink RX12 155 "RedTentModel" "bestWays" "[I") (by decide +kernel)) (fun _ h9 => h9) rfl dX12_days_190 ?_
                                  refine lv_iload hx hb dX12_days_193 (lv_at hl 0 rfl) ?_
                                  refine lv_aload_n hx hb dX12_days_195 rfl (lv_at hl 6 rfl) ?_
                                  refine va_get (D := (dC, dI)) (ci := 12) (v := .ref (am 73)) (C := RX12) (T := TX12) (N := 79) hx hb hts (by decide +kernel) hown hK hP 0 rfl rfl 73 (by decide) (hts (.fieldLink RX12 152 "RedTentModel" "ways" "[I") (by decide +kernel)) (fun _ h9 => h9) rfl dX12_days_196 ?_
                                  refine lv_iload hx hb dX12_days_199 (lv_at hl 0 rfl) ?_
                                  refine va_iald hx hb hK hP 1 0 rfl rfl (vp_in_iff.mpr (by (try simp only [fa_lt, fa_le, fa_eq, fa_lt64, fa_le64, fa_eq64, Int32.reduceToInt, Int64.reduceToInt, zi_ite] at b_2 b_4 ty_5 b_7 hm_l1 i0 i1 i2 c_8 hm_l2 j0 j1 j2 j3 c_9 ty_11 hm_l3 k0 k1 k2 k3 c_12 c_13 hm_l4 m0 m1 m2 c_15 ⊢) <;> omega)) dX12_days_201 ?_
                                  refine va_iast hx hb hK hP hD hS 2 1 rfl rfl (vp_in_iff.mpr (by (try simp only [fa_lt, fa_le, fa_eq, fa_lt64, fa_le64, fa_eq64, Int32.reduceToInt, Int64.reduceToInt, zi_ite] at b_2 b_4 ty_5 b_7 hm_l1 i0 i1 i2 c_8 hm_l2 j0 j1 j2 j3 c_9 ty_11 hm_l3 k0 k1 k2 k3 c_12 c_13 hm_l4 m0 m1 m2 c_15 ⊢) <;> omega)) dX12_days_202 (fun H locs hP hD hS => ?_)
                                  have hP : va_P (dC, dI) vwCl [(h0, .inr (12, [.int 0, .int 0, .ref (am 2), .ref (am 3), .ref (am 4), .int 0, .ref (am 6), .ref (am 7), .ref (am 8), .int 0, .ref (am 10), .ref (am 11), .ref (am 12), .ref (am 13), .ref (am 14), .ref (am 15), .int 0, .ref (am 17), .ref (am 18), .ref (am 19), .ref (am 20), .int 0, .ref (am 22), .int 0, .ref (am 24), .ref (am 25), .ref (am 26), .ref (am 27), .ref (am 28), .ref (am 29), .int 0, .ref (am 31), .ref (am 32), .ref (am 33), .int 0, .ref (am 35), .int 0, .ref (am 37), .ref (am 38), .ref (am 39), .ref (am 40), .ref (am 41), .ref (am 42), .ref (am 43), .int 0, .ref (am 45), .ref (am 46), .ref (am 47), .int 0, .ref (am 49), .int 0, .ref (am 51), .int 0, .ref (am 53), .ref (am 54), .int 1, .int 0, .ref (am 57), .long 0, .ref (am 59), .ref (am 60), .long 0, .int 0, .int 0, .int 0, .int 0, .int 0, .int 0, .ref (am 68), .int 0, .int 0, .ref (am 71), .ref (am 72), .ref (am 73), .ref (am 74), .ref (am 75), .ref (am 76), .ref (am 77), .ref (am 78)])), (am 73, .inl (cs 73, 5, .inl g3)), (am 74, .inl (cs 74, 5, .inl (upd h4 d9.toNatClampNeg (g3 d9.toNatClampNeg))))] H := hP
                                  have hD : va_D A [(h0, .inr (12, [.int 0, .int 0, .ref (am 2), .ref (am 3), .ref (am 4), .int 0, .ref (am 6), .ref (am 7), .ref (am 8), .int 0, .ref (am 10), .ref (am 11), .ref (am 12), .ref (am 13), .ref (am 14), .ref (am 15), .int 0, .ref (am 17), .ref (am 18), .ref (am 19), .ref (am 20), .int 0, .ref (am 22), .int 0, .ref (am 24), .ref (am 25), .ref (am 26), .ref (am 27), .ref (am 28), .ref (am 29), .int 0, .ref (am 31), .ref (am 32), .ref (am 33), .int 0, .ref (am 35), .int 0, .ref (am 37), .ref (am 38), .ref (am 39), .ref (am 40), .ref (am 41), .ref (am 42), .ref (am 43), .int 0, .ref (am 45), .ref (am 46), .ref (am 47), .int 0, .ref (am 49), .int 0, .ref (am 51), .int 0, .ref (am 53), .ref (am 54), .int 1, .int 0, .ref (am 57), .long 0, .ref (am 59), .ref (am 60), .long 0, .int 0, .int 0, .int 0, .int 0, .int 0, .int 0, .ref (am 68), .int 0, .int 0, .ref (am 71), .ref (am 72), .ref (am 73), .ref (am 74), .ref (am 75), .ref (am 76), .ref (am 77), .ref (am 78)])), (am 73, .inl (cs 73, 5, .inl g3)), (am 74, .inl (cs 74, 5, .inl (upd h4 d9.toNatClampNeg (g3 d9.toNatClampNeg))))] := hD
                                  obtain ⟨x_17, ex_17⟩ : ∃ y : Int32, y = d9 + 1 := ⟨_, rfl⟩
                                  refine lv_iinc (v := x_17) (lv' := [(9, .int x_17), (5, .int 0), (8, .int 0), (7, .int lf), (6, .int w), (4, .int a1), (0, .ref h0), (1, .int p0), (2, .int p1), (3, .int p2)]) hx hb dX12_days_203 hl (k := 0) rfl (by rw [ex_17]; rfl) (by decide) rfl (fun ls hl => ?_)
                                  refine lv_goto (tgt := 183) hx hb dX12_days_206 (by decide) ?_
                                  try simp only [fa_lt, fa_le, fa_eq, fa_lt64, fa_le64, fa_eq64, Int32.reduceToInt, Int64.reduceToInt, zi_ite] at b_2
                                  try simp only [fa_lt, fa_le, fa_eq, fa_lt64, fa_le64, fa_eq64, Int32.reduceToInt, Int64.reduceToInt, zi_ite] at b_4
                                  try simp only [fa_lt, fa_le, fa_eq, fa_lt64, fa_le64, fa_eq64, Int32.reduceToInt, Int64.reduceToInt, zi_ite] at ty_5
                                  try simp only [fa_lt, fa_le, fa_eq, fa_lt64, fa_le64, fa_eq64, Int32.reduceToInt, Int64.reduceToInt, zi_ite] at b_7
                                  try simp only [fa_lt, fa_le, fa_eq, fa_lt64, fa_le64, fa_eq64, Int32.reduceToInt, Int64.reduceToInt, zi_ite] at hm_l1
                                  try simp only [fa_lt, fa_le, fa_eq, fa_lt64, fa_le64, fa_eq64, Int32.reduceToInt, Int64.reduceToInt, zi_ite] at i0
                                  try simp only [fa_lt, fa_le, fa_eq, fa_lt64, fa_le64, fa_eq64, Int32.reduceToInt, Int64.reduceToInt, zi_ite] at i1
                                  try simp only [fa_lt, fa_le, fa_eq, fa_lt64, fa_le64, fa_eq64, Int32.reduceToInt, Int64.reduceToInt, zi_ite] at i2
                                  try simp only [fa_lt, fa_le, fa_eq, fa_lt64, fa_le64, fa_eq64, Int32.reduceToInt, Int64.reduceToInt, zi_ite] at c_8
                                  try simp only [fa_lt, fa_le, fa_eq, fa_lt64, fa_le64, fa_eq64, Int32.reduceToInt, Int64.reduceToInt, zi_ite] at hm_l2
                                  try simp only [fa_lt, fa_le, fa_eq, fa_lt64, fa_le64, fa_eq64, Int32.reduceToInt, Int64.reduceToInt, zi_ite] at j0
                                  try simp only [fa_lt, fa_le, fa_eq, fa_lt64, fa_le64, fa_eq64, Int32.reduceToInt, Int64.reduceToInt, zi_ite] at j1
                                  try simp only [fa_lt, fa_le, fa_eq, fa_lt64, fa_le64, fa_eq64, Int32.reduceToInt, Int64.reduceToInt, zi_ite] at j2
                                  try simp only [fa_lt, fa_le, fa_eq, fa_lt64, fa_le64, fa_eq64, Int32.reduceToInt, Int64.reduceToInt, zi_ite] at c_9
                                  try simp only [fa_lt, fa_le, fa_eq, fa_lt64, fa_le64, fa_eq64, Int32.reduceToInt, Int64.reduceToInt, zi_ite] at ty_11
                                  try simp only [fa_lt, fa_le, fa_eq, fa_lt64, fa_le64, fa_eq64, Int32.reduceToInt, Int64.reduceToInt, zi_ite] at hm_l3
                                  try simp only [fa_lt, fa_le, fa_eq, fa_lt64, fa_le64, fa_eq64, Int32.reduceToInt, Int64.reduceToInt, zi_ite] at k0
                                  try simp only [fa_lt, fa_le, fa_eq, fa_lt64, fa_le64, fa_eq64, Int32.reduceToInt, Int64.reduceToInt, zi_ite] at k1
                                  try simp only [fa_lt, fa_le, fa_eq, fa_lt64, fa_le64, fa_eq64, Int32.reduceToInt, Int64.reduceToInt, zi_ite] at c_12
                                  try simp only [fa_lt, fa_le, fa_eq, fa_lt64, fa_le64, fa_eq64, Int32.reduceToInt, Int64.reduceToInt, zi_ite] at c_13
                                  try simp only [fa_lt, fa_le, fa_eq, fa_lt64, fa_le64, fa_eq64, Int32.reduceToInt, Int64.reduceToInt, zi_ite] at hm_l4
                                  try simp only [fa_lt, fa_le, fa_eq, fa_lt64, fa_le64, fa_eq64, Int32.reduceToInt, Int64.reduceToInt, zi_ite] at m0
                                  try simp only [fa_lt, fa_le, fa_eq, fa_lt64, fa_le64, fa_eq64, Int32.reduceToInt, Int64.reduceToInt, zi_ite] at m1
                                  try simp only [fa_lt, fa_le, fa_eq, fa_lt64, fa_le64, fa_eq64, Int32.reduceToInt, Int64.reduceToInt, zi_ite] at c_15
                                  have tx_17 : x_17.toInt = d9.toInt + 1 := by rw [ex_17]; exact zi_inc (by omega)
                                  exact ih_l4 x_17 (upd h4 d9.toNatClampNeg (g3 d9.toNatClampNeg)) (by omega) (by omega) (by omega) (fun j hj => by
                                    by_cases hj9 : j = d9.toNatClampNeg
                                    · rw [hj9]; exact pk_us.trans (k3 (by omega) _ (by omega) (by rw [zi_cl (by omega)]; omega))
                                    · have h7 := zi_cl (d := d9) (by omega); exact (pk_un hj9).trans (m2 j (by omega))) _ _ hP hD hS ls (lv_sub hl [0, 1, 2, 3, 4, 5, 6, 7, 8, 9] rfl)
                            exact l4 _ 0 h (Nat.lt_succ_self _) (by decide) (by simp only [Int32.reduceToInt]; omega) (fun j hj => absurd hj (by simp only [Int32.reduceToInt]; omega)) _ _ hP hD hS ls hl
                        · refine lv_aload_n hx hb dX12_days_86 rfl (lv_at hl 5 rfl) ?_
                          refine va_get (D := (dC, dI)) (ci := 12) (v := .ref (am 73)) (C := RX12) (T := TX12) (N := 79) hx hb hts (by decide +kernel) hown hK hP 0 rfl rfl 73 (by decide) (hts (.fieldLink RX12 152 "RedTentModel" "ways" "[I") (by decide +kernel)) (fun _ h9 => h9) rfl dX12_days_87 ?_
                          refine lv_iload hx hb dX12_days_90 (lv_at hl 0 rfl) ?_
                          refine lv_iload hx hb dX12_days_92 (lv_at hl 1 rfl) ?_
                          refine lv_iconst (v := 3) hx hb dX12_days_94 (by decide) ?_
                          refine lv_irem hx hb dX12_days_95 (by decide) ?_
                          refine va_iast hx hb hK hP hD hS 1 0 rfl rfl (vp_in_iff.mpr (by (try simp only [fa_lt, fa_le, fa_eq, fa_lt64, fa_le64, fa_eq64, Int32.reduceToInt, Int64.reduceToInt, zi_ite] at b_2 b_4 ty_5 b_7 hm_l1 i0 i1 i2 c_8 hm_l2 j0 j1 j2 j3 c_9 ty_11 hm_l3 k0 k1 k2 k3 c_12 ⊢) <;> omega)) dX12_days_96 (fun H locs hP hD hS => ?_)
                          have hP : va_P (dC, dI) vwCl [(h0, .inr (12, [.int 0, .int 0, .ref (am 2), .ref (am 3), .ref (am 4), .int 0, .ref (am 6), .ref (am 7), .ref (am 8), .int 0, .ref (am 10), .ref (am 11), .ref (am 12), .ref (am 13), .ref (am 14), .ref (am 15), .int 0, .ref (am 17), .ref (am 18), .ref (am 19), .ref (am 20), .int 0, .ref (am 22), .int 0, .ref (am 24), .ref (am 25), .ref (am 26), .ref (am 27), .ref (am 28), .ref (am 29), .int 0, .ref (am 31), .ref (am 32), .ref (am 33), .int 0, .ref (am 35), .int 0, .ref (am 37), .ref (am 38), .ref (am 39), .ref (am 40), .ref (am 41), .ref (am 42), .ref (am 43), .int 0, .ref (am 45), .ref (am 46), .ref (am 47), .int 0, .ref (am 49), .int 0, .ref (am 51), .int 0, .ref (am 53), .ref (am 54), .int 1, .int 0, .ref (am 57), .long 0, .ref (am 59), .ref (am 60), .long 0, .int 0, .int 0, .int 0, .int 0, .int 0, .int 0, .ref (am 68), .int 0, .int 0, .ref (am 71), .ref (am 72), .ref (am 73), .ref (am 74), .ref (am 75), .ref (am 76), .ref (am 77), .ref (am 78)])), (am 73, .inl (cs 73, 5, .inl (upd g3 d8.toNatClampNeg (lf - lf / 3 * 3)))), (am 74, .inl (cs 74, 5, .inl h))] H := hP
                          have hD : va_D A [(h0, .inr (12, [.int 0, .int 0, .ref (am 2), .ref (am 3), .ref (am 4), .int 0, .ref (am 6), .ref (am 7), .ref (am 8), .int 0, .ref (am 10), .ref (am 11), .ref (am 12), .ref (am 13), .ref (am 14), .ref (am 15), .int 0, .ref (am 17), .ref (am 18), .ref (am 19), .ref (am 20), .int 0, .ref (am 22), .int 0, .ref (am 24), .ref (am 25), .ref (am 26), .ref (am 27), .ref (am 28), .ref (am 29), .int 0, .ref (am 31), .ref (am 32), .ref (am 33), .int 0, .ref (am 35), .int 0, .ref (am 37), .ref (am 38), .ref (am 39), .ref (am 40), .ref (am 41), .ref (am 42), .ref (am 43), .int 0, .ref (am 45), .ref (am 46), .ref (am 47), .int 0, .ref (am 49), .int 0, .ref (am 51), .int 0, .ref (am 53), .ref (am 54), .int 1, .int 0, .ref (am 57), .long 0, .ref (am 59), .ref (am 60), .long 0, .int 0, .int 0, .int 0, .int 0, .int 0, .int 0, .ref (am 68), .int 0, .int 0, .ref (am 71), .ref (am 72), .ref (am 73), .ref (am 74), .ref (am 75), .ref (am 76), .ref (am 77), .ref (am 78)])), (am 73, .inl (cs 73, 5, .inl (upd g3 d8.toNatClampNeg (lf - lf / 3 * 3)))), (am 74, .inl (cs 74, 5, .inl h))] := hD
                          refine lv_iload hx hb dX12_days_97 (lv_at hl 1 rfl) ?_
                          refine lv_iconst (v := 3) hx hb dX12_days_99 (by decide) ?_
                          refine lv_idiv hx hb dX12_days_100 (by decide) ?_
                          refine lv_topi (fun x_18 ex_18 => ?_)
                          refine lv_istore (lv' := [(7, .int x_18), (8, .int d8), (6, .int w), (5, .int b), (4, .int a1), (0, .ref h0), (1, .int p0), (2, .int p1), (3, .int p2)]) hx hb dX12_days_101 hl (by decide) rfl (fun ls hl => ?_)
                          obtain ⟨x_19, ex_19⟩ : ∃ y : Int32, y = d8 + (-1) := ⟨_, rfl⟩
                          refine lv_iinc (v := x_19) (lv' := [(8, .int x_19), (7, .int x_18), (6, .int w), (5, .int b), (4, .int a1), (0, .ref h0), (1, .int p0), (2, .int p1), (3, .int p2)]) hx hb dX12_days_103 hl (k := 1) rfl (by rw [ex_19]; rfl) (by decide) rfl (fun ls hl => ?_)
                          refine lv_goto (tgt := 81) hx hb dX12_days_106 (by decide) ?_
                          try simp only [fa_lt, fa_le, fa_eq, fa_lt64, fa_le64, fa_eq64, Int32.reduceToInt, Int64.reduceToInt, zi_ite] at b_2
                          try simp only [fa_lt, fa_le, fa_eq, fa_lt64, fa_le64, fa_eq64, Int32.reduceToInt, Int64.reduceToInt, zi_ite] at b_4
                          try simp only [fa_lt, fa_le, fa_eq, fa_lt64, fa_le64, fa_eq64, Int32.reduceToInt, Int64.reduceToInt, zi_ite] at ty_5
                          try simp only [fa_lt, fa_le, fa_eq, fa_lt64, fa_le64, fa_eq64, Int32.reduceToInt, Int64.reduceToInt, zi_ite] at b_7
                          try simp only [fa_lt, fa_le, fa_eq, fa_lt64, fa_le64, fa_eq64, Int32.reduceToInt, Int64.reduceToInt, zi_ite] at hm_l1
                          try simp only [fa_lt, fa_le, fa_eq, fa_lt64, fa_le64, fa_eq64, Int32.reduceToInt, Int64.reduceToInt, zi_ite] at i0
                          try simp only [fa_lt, fa_le, fa_eq, fa_lt64, fa_le64, fa_eq64, Int32.reduceToInt, Int64.reduceToInt, zi_ite] at i1
                          try simp only [fa_lt, fa_le, fa_eq, fa_lt64, fa_le64, fa_eq64, Int32.reduceToInt, Int64.reduceToInt, zi_ite] at i2
                          try simp only [fa_lt, fa_le, fa_eq, fa_lt64, fa_le64, fa_eq64, Int32.reduceToInt, Int64.reduceToInt, zi_ite] at c_8
                          try simp only [fa_lt, fa_le, fa_eq, fa_lt64, fa_le64, fa_eq64, Int32.reduceToInt, Int64.reduceToInt, zi_ite] at hm_l2
                          try simp only [fa_lt, fa_le, fa_eq, fa_lt64, fa_le64, fa_eq64, Int32.reduceToInt, Int64.reduceToInt, zi_ite] at j0
                          try simp only [fa_lt, fa_le, fa_eq, fa_lt64, fa_le64, fa_eq64, Int32.reduceToInt, Int64.reduceToInt, zi_ite] at j1
                          try simp only [fa_lt, fa_le, fa_eq, fa_lt64, fa_le64, fa_eq64, Int32.reduceToInt, Int64.reduceToInt, zi_ite] at j2
                          try simp only [fa_lt, fa_le, fa_eq, fa_lt64, fa_le64, fa_eq64, Int32.reduceToInt, Int64.reduceToInt, zi_ite] at c_9
                          try simp only [fa_lt, fa_le, fa_eq, fa_lt64, fa_le64, fa_eq64, Int32.reduceToInt, Int64.reduceToInt, zi_ite] at ty_11
                          try simp only [fa_lt, fa_le, fa_eq, fa_lt64, fa_le64, fa_eq64, Int32.reduceToInt, Int64.reduceToInt, zi_ite] at hm_l3
                          try simp only [fa_lt, fa_le, fa_eq, fa_lt64, fa_le64, fa_eq64, Int32.reduceToInt, Int64.reduceToInt, zi_ite] at k0
                          try simp only [fa_lt, fa_le, fa_eq, fa_lt64, fa_le64, fa_eq64, Int32.reduceToInt, Int64.reduceToInt, zi_ite] at k1
                          try simp only [fa_lt, fa_le, fa_eq, fa_lt64, fa_le64, fa_eq64, Int32.reduceToInt, Int64.reduceToInt, zi_ite] at c_12
                          have tx_19 : x_19.toInt = d8.toInt + (-1) := by rw [ex_19]; exact zi_add _ _ (by simp only [Int32.reduceToInt]; omega) (by simp only [Int32.reduceToInt]; omega)
                          have zx_19 : w.toInt = 0 → lf = 0 := fun h9 => by have h8 := k2 h9; simp only [fa_eq, Int32.reduceToInt]; omega
                          exact ih_l3 x_19 x_18 (upd g3 d8.toNatClampNeg (lf - lf / 3 * 3)) (by omega) (by omega) (by omega) (fun h9 => by rw [ex_18, zx_19 h9, zi_0div]; decide) (fun h9 j hj1 hj2 => by
                            by_cases hj : j = d8.toNatClampNeg
                            · rw [hj]; refine pk_us.trans ?_; rw [zx_19 h9]; decide
                            · have h7 := zi_cl (d := d8) (by omega); exact (pk_un hj).trans (k3 h9 j (by omega) hj2)) _ _ hP hD hS ls (lv_sub hl [0, 1, 2, 3, 4, 5, 6, 7, 8] rfl)
                    exact l3 _ y_11 w g (Nat.lt_succ_self _) (by omega) (by omega) (fun h9 => h9) (fun _ j hj1 hj2 => by omega) _ _ hP hD hS ls hl
              exact l2 _ 0 (-1) fs gs (Nat.lt_succ_self _) (by decide) (by simp only [Int32.reduceToInt]; omega) (by decide) (fun h9 => absurd h9 (by decide)) _ _ hP hD hS ls hl
            · refine lv_iload hx hb dX12_days_47 (lv_at hl 1 rfl) ?_
              refine lv_iconst (v := 3) hx hb dX12_days_49 (by decide) ?_
              refine lv_imul hx hb dX12_days_50 ?_
              refine lv_topi (fun y_20 ey_20 => ?_)
              have ty_20 : y_20.toInt = a1.toInt * 3 := by
                try simp only [fa_lt, fa_le, fa_eq, fa_lt64, fa_le64, fa_eq64, Int32.reduceToInt, Int64.reduceToInt, zi_ite] at b_2
                try simp only [fa_lt, fa_le, fa_eq, fa_lt64, fa_le64, fa_eq64, Int32.reduceToInt, Int64.reduceToInt, zi_ite] at b_4
                try simp only [fa_lt, fa_le, fa_eq, fa_lt64, fa_le64, fa_eq64, Int32.reduceToInt, Int64.reduceToInt, zi_ite] at ty_5
                try simp only [fa_lt, fa_le, fa_eq, fa_lt64, fa_le64, fa_eq64, Int32.reduceToInt, Int64.reduceToInt, zi_ite] at b_7
                try simp only [fa_lt, fa_le, fa_eq, fa_lt64, fa_le64, fa_eq64, Int32.reduceToInt, Int64.reduceToInt, zi_ite] at hm_l1
                try simp only [fa_lt, fa_le, fa_eq, fa_lt64, fa_le64, fa_eq64, Int32.reduceToInt, Int64.reduceToInt, zi_ite] at i0
                try simp only [fa_lt, fa_le, fa_eq, fa_lt64, fa_le64, fa_eq64, Int32.reduceToInt, Int64.reduceToInt, zi_ite] at i1
                try simp only [fa_lt, fa_le, fa_eq, fa_lt64, fa_le64, fa_eq64, Int32.reduceToInt, Int64.reduceToInt, zi_ite] at i2
                try simp only [fa_lt, fa_le, fa_eq, fa_lt64, fa_le64, fa_eq64, Int32.reduceToInt, Int64.reduceToInt, zi_ite] at c_8
                rw [ey_20]; exact (zi_mul _ _ (by (try simp only [Int32.reduceToInt]) <;> omega) (by (try simp only [Int32.reduceToInt]) <;> omega))
              refine lv_istore (lv' := [(4, .int y_20), (5, .int d1), (0, .ref h0), (1, .int p0), (2, .int p1), (3, .int p2)]) hx hb dX12_days_51 hl (by decide) rfl (fun ls hl => ?_)
              obtain ⟨x_21, ex_21⟩ : ∃ y : Int32, y = d1 + 1 := ⟨_, rfl⟩
              refine lv_iinc (v := x_21) (lv' := [(5, .int x_21), (4, .int y_20), (0, .ref h0), (1, .int p0), (2, .int p1), (3, .int p2)]) hx hb dX12_days_53 hl (k := 1) rfl (by rw [ex_21]; rfl) (by decide) rfl (fun ls hl => ?_)
              refine lv_goto (tgt := 41) hx hb dX12_days_56 (by decide) ?_
              try simp only [fa_lt, fa_le, fa_eq, fa_lt64, fa_le64, fa_eq64, Int32.reduceToInt, Int64.reduceToInt, zi_ite] at b_2
              try simp only [fa_lt, fa_le, fa_eq, fa_lt64, fa_le64, fa_eq64, Int32.reduceToInt, Int64.reduceToInt, zi_ite] at b_4
              try simp only [fa_lt, fa_le, fa_eq, fa_lt64, fa_le64, fa_eq64, Int32.reduceToInt, Int64.reduceToInt, zi_ite] at ty_5
              try simp only [fa_lt, fa_le, fa_eq, fa_lt64, fa_le64, fa_eq64, Int32.reduceToInt, Int64.reduceToInt, zi_ite] at b_7
              try simp only [fa_lt, fa_le, fa_eq, fa_lt64, fa_le64, fa_eq64, Int32.reduceToInt, Int64.reduceToInt, zi_ite] at hm_l1
              try simp only [fa_lt, fa_le, fa_eq, fa_lt64, fa_le64, fa_eq64, Int32.reduceToInt, Int64.reduceToInt, zi_ite] at i0
              try simp only [fa_lt, fa_le, fa_eq, fa_lt64, fa_le64, fa_eq64, Int32.reduceToInt, Int64.reduceToInt, zi_ite] at i1
              try simp only [fa_lt, fa_le, fa_eq, fa_lt64, fa_le64, fa_eq64, Int32.reduceToInt, Int64.reduceToInt, zi_ite] at i2
              try simp only [fa_lt, fa_le, fa_eq, fa_lt64, fa_le64, fa_eq64, Int32.reduceToInt, Int64.reduceToInt, zi_ite] at c_8
              try simp only [fa_lt, fa_le, fa_eq, fa_lt64, fa_le64, fa_eq64, Int32.reduceToInt, Int64.reduceToInt, zi_ite] at ty_20
              have tx_21 : x_21.toInt = d1.toInt + 1 := by rw [ex_21]; exact zi_inc (by omega)
              exact ih_l1 x_21 y_20 (by omega) (by omega) (by omega) (by omega) _ _ hP hD hS ls (lv_sub hl [0, 1, 2, 3, 4, 5] rfl)
        exact l1 _ 0 1 (Nat.lt_succ_self _) (by decide) (by simp only [Int32.reduceToInt]; omega) (by decide) _ _ hP hD hS ls hl
      · refine lv_if_ne (tgt := 35) hx hb dX12_days_30 (by decide) (fun c9 => absurd (by decide) c9) (fun _ => ?_)
        refine lv_iconst (v := (-1)) hx hb dX12_days_33 (by decide) ?_
        have hpost : ((¬ (1 ≤ p0 ∧ p0 ≤ 5 ∧ 0 ≤ p1 ∧ p1 ≤ 99)) ∧ ((-1) : Int32) = (-2)) ∨ (((1 ≤ p0 ∧ p0 ≤ 5 ∧ 0 ≤ p1 ∧ p1 ≤ 99) ∧ ¬ (-1 ≤ p2 ∧ p2 < p0)) ∧ ((-1) : Int32) = (-1)) ∨ (((1 ≤ p0 ∧ p0 ≤ 5 ∧ 0 ≤ p1 ∧ p1 ≤ 99) ∧ -1 ≤ p2 ∧ p2 < p0) ∧ ((-1) : Int32) = 0) := by
          try simp only [fa_lt, fa_le, fa_eq, fa_lt64, fa_le64, fa_eq64, Int32.reduceToInt, Int64.reduceToInt, zi_ite] at b_2
          try simp only [fa_lt, fa_le, fa_eq, fa_lt64, fa_le64, fa_eq64, Int32.reduceToInt, Int64.reduceToInt, zi_ite] at b_4
          try simp only [fa_lt, fa_le, fa_eq, fa_lt64, fa_le64, fa_eq64, Int32.reduceToInt, Int64.reduceToInt, zi_ite] at ty_5
          try simp only [fa_lt, fa_le, fa_eq, fa_lt64, fa_le64, fa_eq64, Int32.reduceToInt, Int64.reduceToInt, zi_ite] at b_7
          first
          | exact Or.inl ⟨by (try simp only [fa_lt, fa_le, fa_eq, fa_lt64, fa_le64, fa_eq64, Int32.reduceToInt, Int64.reduceToInt, zi_ite]); omega, rfl⟩
          | exact Or.inr (Or.inl ⟨by (try simp only [fa_lt, fa_le, fa_eq, fa_lt64, fa_le64, fa_eq64, Int32.reduceToInt, Int64.reduceToInt, zi_ite]); omega, rfl⟩)
          | exact Or.inr (Or.inr (⟨by (try simp only [fa_lt, fa_le, fa_eq, fa_lt64, fa_le64, fa_eq64, Int32.reduceToInt, Int64.reduceToInt, zi_ite]); omega, rfl⟩))
        refine W.widen (k := 0) (n := 0) (by decide +kernel) (by decide +kernel) ?_
        exact W.iret (v := (-1)) hx hb hr (fun t ht hW => ⟨⟨(-1), (), rfl, hpost, trivial⟩, hS.F ht⟩) hS.2.2 dX12_days_34
    · refine lv_if_ne (tgt := 22) hx hb dX12_days_16 (by decide) (fun c9 => absurd (by decide) c9) (fun _ => ?_)
      refine lv_bipush (v := (-2)) hx hb dX12_days_19 (by decide) ?_
      have hpost : ((¬ (1 ≤ p0 ∧ p0 ≤ 5 ∧ 0 ≤ p1 ∧ p1 ≤ 99)) ∧ ((-2) : Int32) = (-2)) ∨ (((1 ≤ p0 ∧ p0 ≤ 5 ∧ 0 ≤ p1 ∧ p1 ≤ 99) ∧ ¬ (-1 ≤ p2 ∧ p2 < p0)) ∧ ((-2) : Int32) = (-1)) ∨ (((1 ≤ p0 ∧ p0 ≤ 5 ∧ 0 ≤ p1 ∧ p1 ≤ 99) ∧ -1 ≤ p2 ∧ p2 < p0) ∧ ((-2) : Int32) = 0) := by
        try simp only [fa_lt, fa_le, fa_eq, fa_lt64, fa_le64, fa_eq64, Int32.reduceToInt, Int64.reduceToInt, zi_ite] at b_2
        try simp only [fa_lt, fa_le, fa_eq, fa_lt64, fa_le64, fa_eq64, Int32.reduceToInt, Int64.reduceToInt, zi_ite] at b_4
        first
        | exact Or.inl ⟨by (try simp only [fa_lt, fa_le, fa_eq, fa_lt64, fa_le64, fa_eq64, Int32.reduceToInt, Int64.reduceToInt, zi_ite]); omega, rfl⟩
        | exact Or.inr (Or.inl ⟨by (try simp only [fa_lt, fa_le, fa_eq, fa_lt64, fa_le64, fa_eq64, Int32.reduceToInt, Int64.reduceToInt, zi_ite]); omega, rfl⟩)
        | exact Or.inr (Or.inr (⟨by (try simp only [fa_lt, fa_le, fa_eq, fa_lt64, fa_le64, fa_eq64, Int32.reduceToInt, Int64.reduceToInt, zi_ite]); omega, rfl⟩))
      refine W.widen (k := 0) (n := 0) (by decide +kernel) (by decide +kernel) ?_
      exact W.iret (v := (-2)) hx hb hr (fun t ht hW => ⟨⟨(-2), (), rfl, hpost, trivial⟩, hS.F ht⟩) hS.2.2 dX12_days_21
  · refine lv_if_eq (tgt := 19) hx hb dX12_days_6 (by decide) (fun _ => ?_) (fun c9 => absurd (by decide) c9)
    refine lv_bipush (v := (-2)) hx hb dX12_days_19 (by decide) ?_
    have hpost : ((¬ (1 ≤ p0 ∧ p0 ≤ 5 ∧ 0 ≤ p1 ∧ p1 ≤ 99)) ∧ ((-2) : Int32) = (-2)) ∨ (((1 ≤ p0 ∧ p0 ≤ 5 ∧ 0 ≤ p1 ∧ p1 ≤ 99) ∧ ¬ (-1 ≤ p2 ∧ p2 < p0)) ∧ ((-2) : Int32) = (-1)) ∨ (((1 ≤ p0 ∧ p0 ≤ 5 ∧ 0 ≤ p1 ∧ p1 ≤ 99) ∧ -1 ≤ p2 ∧ p2 < p0) ∧ ((-2) : Int32) = 0) := by
      try simp only [fa_lt, fa_le, fa_eq, fa_lt64, fa_le64, fa_eq64, Int32.reduceToInt, Int64.reduceToInt, zi_ite] at b_2
      first
      | exact Or.inl ⟨by (try simp only [fa_lt, fa_le, fa_eq, fa_lt64, fa_le64, fa_eq64, Int32.reduceToInt, Int64.reduceToInt, zi_ite]); omega, rfl⟩
      | exact Or.inr (Or.inl ⟨by (try simp only [fa_lt, fa_le, fa_eq, fa_lt64, fa_le64, fa_eq64, Int32.reduceToInt, Int64.reduceToInt, zi_ite]); omega, rfl⟩)
      | exact Or.inr (Or.inr (⟨by (try simp only [fa_lt, fa_le, fa_eq, fa_lt64, fa_le64, fa_eq64, Int32.reduceToInt, Int64.reduceToInt, zi_ite]); omega, rfl⟩))
    refine W.widen (k := 0) (n := 0) (by decide +kernel) (by decide +kernel) ?_
    exact W.iret (v := (-2)) hx hb hr (fun t ht hW => ⟨⟨(-2), (), rfl, hpost, trivial⟩, hS.F ht⟩) hS.2.2 dX12_days_21
