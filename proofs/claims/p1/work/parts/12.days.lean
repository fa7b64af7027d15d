theorem dX1_leastCells_0 : decode cX1_leastCells 0 = .ok (.aload_n 0, 1) := by decide +kernel
theorem dX1_leastCells_1 : decode cX1_leastCells 1 = .ok (.getfield 16, 3) := by decide +kernel
theorem dX1_leastCells_4 : decode cX1_leastCells 4 = .ok (.ifCond .ne 7, 3) := by decide +kernel
theorem dX1_leastCells_7 : decode cX1_leastCells 7 = .ok (.iconst 0, 1) := by decide +kernel
theorem dX1_leastCells_8 : decode cX1_leastCells 8 = .ok (.goto 5, 3) := by decide +kernel
theorem dX1_leastCells_13 : decode cX1_leastCells 13 = .ok (.istore 4, 2) := by decide +kernel
theorem dX1_leastCells_15 : decode cX1_leastCells 15 = .ok (.iconst 0, 1) := by decide +kernel
theorem dX1_leastCells_16 : decode cX1_leastCells 16 = .ok (.istore 5, 2) := by decide +kernel
theorem dX1_leastCells_18 : decode cX1_leastCells 18 = .ok (.iload 5, 2) := by decide +kernel
theorem dX1_leastCells_20 : decode cX1_leastCells 20 = .ok (.aload_n 0, 1) := by decide +kernel
theorem dX1_leastCells_21 : decode cX1_leastCells 21 = .ok (.getfield 16, 3) := by decide +kernel
theorem dX1_leastCells_24 : decode cX1_leastCells 24 = .ok (.if_icmp .ge 25, 3) := by decide +kernel
theorem dX1_leastCells_49 : decode cX1_leastCells 49 = .ok (.iload 4, 2) := by decide +kernel
theorem dX1_leastCells_51 : decode cX1_leastCells 51 = .ok (.ireturn, 1) := by decide +kernel
theorem dX1_plan_0 : decode cX1_plan 0 = .ok (.aload_n 0, 1) := by decide +kernel
theorem dX1_plan_1 : decode cX1_plan 1 = .ok (.iconst (-1), 1) := by decide +kernel
theorem dX1_plan_2 : decode cX1_plan 2 = .ok (.putfield 22, 3) := by decide +kernel
theorem dX1_plan_5 : decode cX1_plan 5 = .ok (.aload_n 0, 1) := by decide +kernel
theorem dX1_plan_6 : decode cX1_plan 6 = .ok (.iconst 0, 1) := by decide +kernel
theorem dX1_plan_7 : decode cX1_plan 7 = .ok (.putfield 25, 3) := by decide +kernel
theorem dX1_plan_10 : decode cX1_plan 10 = .ok (.iconst 0, 1) := by decide +kernel
theorem dX1_plan_11 : decode cX1_plan 11 = .ok (.istore_n 3, 1) := by decide +kernel
theorem dX1_plan_12 : decode cX1_plan 12 = .ok (.iload_n 3, 1) := by decide +kernel
theorem dX1_plan_13 : decode cX1_plan 13 = .ok (.getstatic 28, 3) := by decide +kernel
theorem dX1_plan_16 : decode cX1_plan 16 = .ok (.iload_n 1, 1) := by decide +kernel
theorem dX1_plan_17 : decode cX1_plan 17 = .ok (.iaload, 1) := by decide +kernel
theorem dX1_plan_18 : decode cX1_plan 18 = .ok (.if_icmp .ge 38, 3) := by decide +kernel
theorem dX1_plan_56 : decode cX1_plan 56 = .ok (.return_, 1) := by decide +kernel
theorem dX1_plan_21 : decode cX1_plan 21 = .ok (.aload_n 0, 1) := by decide +kernel
theorem dX1_plan_22 : decode cX1_plan 22 = .ok (.iload_n 1, 1) := by decide +kernel
theorem dX1_plan_23 : decode cX1_plan 23 = .ok (.iload_n 2, 1) := by decide +kernel
theorem dX1_plan_24 : decode cX1_plan 24 = .ok (.iload_n 3, 1) := by decide +kernel
set_option maxRecDepth 20000 in
theorem ggX1_plan_X1_leastCells : GoodIn wsX1_plan wsX1_leastCells := goodIn_r _ [8, 9, 10, 11, 12, 13, 14, 15, 16, 7, 17, 18, 19, 20, 21, 22, 3, 23, 24, 25, 26] (by decide +kernel) (by decide +kernel)
set_option maxRecDepth 20000 in
theorem gX1_plan_X1_leastCells : GoodIn wsX1_plan (wsV RX1 32 RX1 yX1_leastCells wsX1_leastCells) := goodIn_app (goodIn_of _ (by decide +kernel)) ggX1_plan_X1_leastCells
theorem dX1_plan_25 : decode cX1_plan 25 = .ok (.invokevirtual 32, 3) := by decide +kernel
theorem dX1_plan_28 : decode cX1_plan 28 = .ok (.istore 4, 2) := by decide +kernel
theorem dX1_plan_30 : decode cX1_plan 30 = .ok (.iload 4, 2) := by decide +kernel
theorem dX1_plan_32 : decode cX1_plan 32 = .ok (.aload_n 0, 1) := by decide +kernel
theorem dX1_plan_33 : decode cX1_plan 33 = .ok (.getfield 22, 3) := by decide +kernel
theorem dX1_plan_36 : decode cX1_plan 36 = .ok (.if_icmp .le 14, 3) := by decide +kernel
theorem dX1_plan_50 : decode cX1_plan 50 = .ok (.iinc 3 1, 3) := by decide +kernel
theorem dX1_plan_53 : decode cX1_plan 53 = .ok (.goto (-41), 3) := by decide +kernel
theorem dX1_plan_39 : decode cX1_plan 39 = .ok (.aload_n 0, 1) := by decide +kernel
theorem dX1_plan_40 : decode cX1_plan 40 = .ok (.iload 4, 2) := by decide +kernel
theorem dX1_plan_42 : decode cX1_plan 42 = .ok (.putfield 22, 3) := by decide +kernel
theorem dX1_plan_45 : decode cX1_plan 45 = .ok (.aload_n 0, 1) := by decide +kernel
theorem dX1_plan_46 : decode cX1_plan 46 = .ok (.iload_n 3, 1) := by decide +kernel
theorem dX1_plan_47 : decode cX1_plan 47 = .ok (.putfield 25, 3) := by decide +kernel
theorem dX1_wayOn_0 : decode cX1_wayOn 0 = .ok (.iload_n 3, 1) := by decide +kernel
theorem dX1_wayOn_1 : decode cX1_wayOn 1 = .ok (.getstatic 28, 3) := by decide +kernel
theorem dX1_wayOn_4 : decode cX1_wayOn 4 = .ok (.iload_n 2, 1) := by decide +kernel
theorem dX1_wayOn_5 : decode cX1_wayOn 5 = .ok (.iconst 1, 1) := by decide +kernel
theorem dX1_wayOn_6 : decode cX1_wayOn 6 = .ok (.isub, 1) := by decide +kernel
theorem dX1_wayOn_7 : decode cX1_wayOn 7 = .ok (.iload_n 1, 1) := by decide +kernel
theorem dX1_wayOn_8 : decode cX1_wayOn 8 = .ok (.isub, 1) := by decide +kernel
theorem dX1_wayOn_9 : decode cX1_wayOn 9 = .ok (.iaload, 1) := by decide +kernel
theorem dX1_wayOn_10 : decode cX1_wayOn 10 = .ok (.idiv, 1) := by decide +kernel
theorem dX1_wayOn_11 : decode cX1_wayOn 11 = .ok (.iconst 3, 1) := by decide +kernel
theorem dX1_wayOn_12 : decode cX1_wayOn 12 = .ok (.irem, 1) := by decide +kernel
theorem dX1_wayOn_13 : decode cX1_wayOn 13 = .ok (.ireturn, 1) := by decide +kernel
theorem dX11_days_0 : decode cX11_days 0 = .ok (.iload_n 1, 1) := by decide +kernel
theorem dX11_days_1 : decode cX11_days 1 = .ok (.iconst 1, 1) := by decide +kernel
theorem dX11_days_2 : decode cX11_days 2 = .ok (.if_icmp .lt 18, 3) := by decide +kernel
theorem dX11_days_20 : decode cX11_days 20 = .ok (.bipush (-2), 2) := by decide +kernel
theorem dX11_days_22 : decode cX11_days 22 = .ok (.ireturn, 1) := by decide +kernel
theorem dX11_days_5 : decode cX11_days 5 = .ok (.iload_n 1, 1) := by decide +kernel
theorem dX11_days_6 : decode cX11_days 6 = .ok (.iconst 5, 1) := by decide +kernel
theorem dX11_days_7 : decode cX11_days 7 = .ok (.if_icmp .gt 13, 3) := by decide +kernel
theorem dX11_days_10 : decode cX11_days 10 = .ok (.iload_n 2, 1) := by decide +kernel
theorem dX11_days_11 : decode cX11_days 11 = .ok (.ifCond .lt 9, 3) := by decide +kernel
theorem dX11_days_14 : decode cX11_days 14 = .ok (.iload_n 2, 1) := by decide +kernel
theorem dX11_days_15 : decode cX11_days 15 = .ok (.bipush 99, 2) := by decide +kernel
theorem dX11_days_17 : decode cX11_days 17 = .ok (.if_icmp .le 6, 3) := by decide +kernel
theorem dX11_days_23 : decode cX11_days 23 = .ok (.iload_n 3, 1) := by decide +kernel
theorem dX11_days_24 : decode cX11_days 24 = .ok (.iconst (-1), 1) := by decide +kernel
theorem dX11_days_25 : decode cX11_days 25 = .ok (.if_icmp .lt 8, 3) := by decide +kernel
theorem dX11_days_33 : decode cX11_days 33 = .ok (.iconst (-1), 1) := by decide +kernel
theorem dX11_days_34 : decode cX11_days 34 = .ok (.ireturn, 1) := by decide +kernel
theorem dX11_days_28 : decode cX11_days 28 = .ok (.iload_n 3, 1) := by decide +kernel
theorem dX11_days_29 : decode cX11_days 29 = .ok (.iload_n 1, 1) := by decide +kernel
theorem dX11_days_30 : decode cX11_days 30 = .ok (.if_icmp .lt 5, 3) := by decide +kernel
theorem dX11_days_35 : decode cX11_days 35 = .ok (.aload_n 0, 1) := by decide +kernel
theorem dX11_days_36 : decode cX11_days 36 = .ok (.getfield 60, 3) := by decide +kernel
theorem dX11_days_39 : decode cX11_days 39 = .ok (.iload_n 1, 1) := by decide +kernel
theorem dX11_days_40 : decode cX11_days 40 = .ok (.iload_n 2, 1) := by decide +kernel
set_option maxRecDepth 20000 in
theorem ggX11_days_X1_plan : GoodIn wsX11_days wsX1_plan := goodIn_r _ [8, 9, 10, 11, 12, 13, 14, 7, 15, 16, 17, 18, 19, 20, 21, 22, 23, 24, 25, 26, 27, 28, 29, 44, 45, 46, 47] (by decide +kernel) (by decide +kernel)
set_option maxRecDepth 20000 in
theorem gX11_days_X1_plan : GoodIn wsX11_days (wsV RX11 336 RX1 yX1_plan wsX1_plan) := goodIn_app (goodIn_of _ (by decide +kernel)) ggX11_days_X1_plan
theorem dX11_days_41 : decode cX11_days 41 = .ok (.invokevirtual 336, 3) := by decide +kernel
theorem dX11_days_44 : decode cX11_days 44 = .ok (.iload_n 3, 1) := by decide +kernel
theorem dX11_days_45 : decode cX11_days 45 = .ok (.iconst (-1), 1) := by decide +kernel
theorem dX11_days_46 : decode cX11_days 46 = .ok (.if_icmp .ne 13, 3) := by decide +kernel
theorem dX11_days_59 : decode cX11_days 59 = .ok (.aload_n 0, 1) := by decide +kernel
theorem dX11_days_60 : decode cX11_days 60 = .ok (.getfield 60, 3) := by decide +kernel
theorem dX11_days_63 : decode cX11_days 63 = .ok (.iload_n 3, 1) := by decide +kernel
theorem dX11_days_64 : decode cX11_days 64 = .ok (.iload_n 1, 1) := by decide +kernel
theorem dX11_days_65 : decode cX11_days 65 = .ok (.aload_n 0, 1) := by decide +kernel
theorem dX11_days_66 : decode cX11_days 66 = .ok (.getfield 60, 3) := by decide +kernel
theorem dX11_days_69 : decode cX11_days 69 = .ok (.getfield 342, 3) := by decide +kernel
set_option maxRecDepth 20000 in
theorem ggX11_days_X1_wayOn : GoodIn wsX11_days wsX1_wayOn := goodIn_r _ [29, 11] (by decide +kernel) (by decide +kernel)
set_option maxRecDepth 20000 in
theorem gX11_days_X1_wayOn : GoodIn wsX11_days (wsV RX11 345 RX1 yX1_wayOn wsX1_wayOn) := goodIn_app (goodIn_of _ (by decide +kernel)) ggX11_days_X1_wayOn
theorem dX11_days_72 : decode cX11_days 72 = .ok (.invokevirtual 345, 3) := by decide +kernel
theorem dX11_days_75 : decode cX11_days 75 = .ok (.ireturn, 1) := by decide +kernel
theorem dX11_days_49 : decode cX11_days 49 = .ok (.aload_n 0, 1) := by decide +kernel
theorem dX11_days_50 : decode cX11_days 50 = .ok (.getfield 60, 3) := by decide +kernel
theorem dX11_days_53 : decode cX11_days 53 = .ok (.getfield 339, 3) := by decide +kernel
theorem dX11_days_56 : decode cX11_days 56 = .ok (.goto 19, 3) := by decide +kernel
set_option maxHeartbeats 1000000 in
set_option maxRecDepth 100000 in
theorem rt_X1_leastCells (l : Launch) (dC : Nat → ClassId) (dI : Nat → Nat → Nat) (h1 : Nat) (ak : Nat → Nat) (b w : Int32) (p0 p1 p2 : Int32) : Met l yX1_leastCells wsX1_leastCells ({ frames := 0, cells := 0, slots := 0, locals := 0 }) (va_Pc [.ref h1, .int p0, .int p1, .int p2] (fun U => va_P (dC, dI) vwCl [(h1, .inr (1, [.ref (ak 0), .int 0, .int b, .int w]))] U.heap ∧ va_K (dC, dI) vwCl [] U)) (vp_Si (fun r : Int32 => r = 0)) 0 0 (fun _ => False) := by
  refine Met.ofW (cc := cX1_leastCells) (maxL := 6) (ret := (some .int)) (by decide) rfl ?_
  intro p e s m args below meth c s₁ B hml hv
  obtain ⟨rfl, hP, hK⟩ := hv
  have hx := B.exec
  have hb := B.bytes
  have hr := B.returns
  have hts := atoms_spec (ws := wsX1_leastCells) B.pre
  have hown : s.vm.findClass RX1 = some m.cls := findClass_of_methodNamed B.named
  have hlocks := B.notSynchronized
  have hl := lv_entry ([.ref h1, .int p0, .int p1, .int p2]) (n := 6) (Nat.le_of_ble_eq_true rfl)
  rw [lg_entry_eq]
  generalize (lg_sl ([.ref h1, .int p0, .int p1, .int p2]) ++ List.replicate (6 - (lg_sl ([.ref h1, .int p0, .int p1, .int p2])).length) Slot.unset).toArray = ls at hl ⊢
  have hl : lv_has ls 6 [(0, .ref h1), (1, .int p0), (2, .int p1), (3, .int p2)] := hl
  refine lv_aload_n hx hb dX1_leastCells_0 rfl (lv_at hl 0 rfl) ?_
  refine va_get (D := (dC, dI)) (ci := 1) (v := .int 0) (C := RX1) (T := TX1) (N := 4) hx hb hts (by decide +kernel) hown hK hP 0 rfl rfl 1 (by decide) (hts (.fieldLink RX1 16 "RedTent$Breaker" "rowCount" "I") (by decide +kernel)) (fun _ h9 => h9) rfl dX1_leastCells_1 ?_
  refine lv_if_ne (tgt := 11) hx hb dX1_leastCells_4 (by decide) (fun c9 => absurd (by decide) c9) (fun _ => ?_)
  refine lv_iconst (v := 0) hx hb dX1_leastCells_7 (by decide) ?_
  refine lv_goto (tgt := 13) hx hb dX1_leastCells_8 (by decide) ?_
  refine lv_istore (lv' := [(4, .int 0), (0, .ref h1), (1, .int p0), (2, .int p1), (3, .int p2)]) hx hb dX1_leastCells_13 hl (by decide) rfl (fun ls hl => ?_)
  refine lv_iconst (v := 0) hx hb dX1_leastCells_15 (by decide) ?_
  refine lv_istore (lv' := [(5, .int 0), (4, .int 0), (0, .ref h1), (1, .int p0), (2, .int p1), (3, .int p2)]) hx hb dX1_leastCells_16 hl (by decide) rfl (fun ls hl => ?_)
  refine lv_iload hx hb dX1_leastCells_18 (lv_at hl 0 rfl) ?_
  refine lv_aload_n hx hb dX1_leastCells_20 rfl (lv_at hl 2 rfl) ?_
  refine va_get (D := (dC, dI)) (ci := 1) (v := .int 0) (C := RX1) (T := TX1) (N := 4) hx hb hts (by decide +kernel) hown hK hP 0 rfl rfl 1 (by decide) (hts (.fieldLink RX1 16 "RedTent$Breaker" "rowCount" "I") (by decide +kernel)) (fun _ h9 => h9) rfl dX1_leastCells_21 ?_
  refine lv_icmp_ge (tgt := 49) hx hb dX1_leastCells_24 (by decide) (fun _ => ?_) (fun c9 => absurd (by decide) c9)
  refine lv_iload hx hb dX1_leastCells_49 (lv_at hl 1 rfl) ?_
  exact W.iret (v := 0) hx hb hr (fun t ht hW => ⟨0, rfl, rfl, ht⟩) (fun _ h => absurd h List.not_mem_nil) dX1_leastCells_51
set_option maxHeartbeats 1000000 in
set_option maxRecDepth 100000 in
theorem rt_X1_plan (l : Launch) (dC : Nat → ClassId) (dI : Nat → Nat → Nat) (sz : Nat) (h1 : Nat) (ak : Nat → Nat) (p0 p1 : Int32) (hp0 : 1 ≤ p0.toInt ∧ p0.toInt ≤ 5) : Met l yX1_plan wsX1_plan ({ frames := 1, cells := 0, slots := 0, locals := 25 }) (va_Pc [.ref h1, .int p0, .int p1] (fun U => U.heap.size = sz ∧ va_P (dC, dI) vwCl [(h1, .inr (1, [.ref (ak 0), .int 0, .int 0, .int 0]))] U.heap ∧ va_K (dC, dI) vwCl [] U ∧ va_D (fun _ => True) [(h1, .inr (1, [.ref (ak 0), .int 0, .int 0, .int 0]))] ∧ rt_T (va_A [(h1, .inr (1, [.ref (ak 0), .int 0, .int 0, .int 0]))] sz) U U.heap)) (va_Qv (fun u : Int32 × Int32 => match u with | (b2, w2) => b2 = 0 ∧ w2 = 0) (fun (u : Int32 × Int32) (t : State) => match u with | (b2, w2) => va_P (dC, dI) vwCl [(h1, .inr (1, [.ref (ak 0), .int 0, .int b2, .int w2]))] t.heap ∧ va_D (va_A [(h1, .inr (1, [.ref (ak 0), .int 0, .int 0, .int 0]))] sz) [(h1, .inr (1, [.ref (ak 0), .int 0, .int b2, .int w2]))]) (va_A [(h1, .inr (1, [.ref (ak 0), .int 0, .int 0, .int 0]))] sz)) 0 0 (va_A [(h1, .inr (1, [.ref (ak 0), .int 0, .int 0, .int 0]))] sz) := by
  refine Met.ofW (cc := cX1_plan) (maxL := 5) (ret := none) (by decide) rfl ?_
  intro p e s m args below meth c s₁ B hml hv
  obtain ⟨rfl, hsz, hP, hK, hD0, hT⟩ := hv
  have hx := B.exec
  have hb := B.bytes
  have hr := B.returns
  have hts := atoms_spec (ws := wsX1_plan) B.pre
  have hown : s.vm.findClass RX1 = some m.cls := findClass_of_methodNamed B.named
  have hlocks := B.notSynchronized
  subst hsz
  have hD := hD0.self (sz := s.heap.size)
  have hT : rt_T (va_A [(h1, .inr (1, [.ref (ak 0), .int 0, .int 0, .int 0]))] s.heap.size) s s.heap := hT
  generalize hAe : va_A [(h1, .inr (1, [.ref (ak 0), .int 0, .int 0, .int 0]))] s.heap.size = A at hD hT ⊢
  have hA : ∀ q : Nat, s.heap.size ≤ q → A q := fun q h => by rw [← hAe]; exact Or.inr h
  have hS : va_S A s.heap s.heap [] := va_S.rf
  obtain ⟨⟨t1s, hZ1, hT1⟩, ⟨t2s, hZ2, hT2⟩, ⟨t3s, hZ3, hT3⟩⟩ := id hT
  have hl := lv_entry ([.ref h1, .int p0, .int p1]) (n := 5) (Nat.le_of_ble_eq_true rfl)
  rw [lg_entry_eq]
  generalize (lg_sl ([.ref h1, .int p0, .int p1]) ++ List.replicate (5 - (lg_sl ([.ref h1, .int p0, .int p1])).length) Slot.unset).toArray = ls at hl ⊢
  have hl : lv_has ls 5 [(0, .ref h1), (1, .int p0), (2, .int p1)] := hl
  refine lv_aload_n hx hb dX1_plan_0 rfl (lv_at hl 0 rfl) ?_
  refine lv_iconst (v := (-1)) hx hb dX1_plan_1 (by decide) ?_
  refine va_put (D := (dC, dI)) (ci := 1) (v := .int (-1)) (ty := .int) (C := RX1) (T := TX1) (N := 4) hx hb hts (by decide +kernel) tyX1 tyX1_ok nmX1 hown hK hP hD hS 0 rfl rfl 2 (by decide) (hts (.fieldLink RX1 22 "RedTent$Breaker" "bestCells" "I") (by decide +kernel)) (fun _ h9 => h9) rfl (by decide +kernel) rfl rfl (Nat.le_of_ble_eq_true rfl) dX1_plan_2 (fun H locs hP hD hS => ?_)
  have hP : va_P (dC, dI) vwCl [(h1, .inr (1, [.ref (ak 0), .int 0, .int (-1), .int 0]))] H := hP
  have hD : va_D A [(h1, .inr (1, [.ref (ak 0), .int 0, .int (-1), .int 0]))] := hD
  refine lv_aload_n hx hb dX1_plan_5 rfl (lv_at hl 0 rfl) ?_
  refine lv_iconst (v := 0) hx hb dX1_plan_6 (by decide) ?_
  refine va_put (D := (dC, dI)) (ci := 1) (v := .int 0) (ty := .int) (C := RX1) (T := TX1) (N := 4) hx hb hts (by decide +kernel) tyX1 tyX1_ok nmX1 hown hK hP hD hS 0 rfl rfl 3 (by decide) (hts (.fieldLink RX1 25 "RedTent$Breaker" "bestWays" "I") (by decide +kernel)) (fun _ h9 => h9) rfl (by decide +kernel) rfl rfl (Nat.le_of_ble_eq_true rfl) dX1_plan_7 (fun H locs hP hD hS => ?_)
  have hP : va_P (dC, dI) vwCl [(h1, .inr (1, [.ref (ak 0), .int 0, .int (-1), .int 0]))] H := hP
  have hD : va_D A [(h1, .inr (1, [.ref (ak 0), .int 0, .int (-1), .int 0]))] := hD
  refine lv_iconst (v := 0) hx hb dX1_plan_10 (by decide) ?_
  refine lv_istore_n (lv' := [(3, .int 0), (0, .ref h1), (1, .int p0), (2, .int p1)]) hx hb dX1_plan_11 rfl hl (by decide) rfl (fun ls hl => ?_)
  have lp : ∀ (n : Nat) (x : Int32) (b : Int32) (w : Int32), (243 - x.toInt).toNat < n → 0 ≤ x.toInt → x.toInt ≤ 243 → (x.toInt = 0 ∧ b.toInt = -1) ∨ (1 ≤ x.toInt ∧ b.toInt = 0) → w.toInt = 0 → ∀ (H : Heap) (locs : List Loc), va_P (dC, dI) vwCl [(h1, .inr (1, [.ref (ak 0), .int 0, .int b, .int w]))] H → va_D A [(h1, .inr (1, [.ref (ak 0), .int 0, .int b, .int w]))] → va_S A s.heap H locs → ∀ (ls : Array Slot), lv_has ls 5 [(3, .int x), (0, .ref h1), (1, .int p0), (2, .int p1)] → W p l e (headSpec wsX1_plan ({ frames := 1, cells := 0, slots := 0, locals := 25 })).room s m ([.ref h1, .int p0, .int p1] : List Value).toArray below meth c H locs 0 0 (MQ below (va_Qv (fun u : Int32 × Int32 => match u with | (b2, w2) => b2 = 0 ∧ w2 = 0) (fun (u : Int32 × Int32) (t : State) => match u with | (b2, w2) => va_P (dC, dI) vwCl [(h1, .inr (1, [.ref (ak 0), .int 0, .int b2, .int w2]))] t.heap ∧ va_D A [(h1, .inr (1, [.ref (ak 0), .int 0, .int b2, .int w2]))]) A) ([.ref h1, .int p0, .int p1] : List Value).toArray s 0 0 A) (F0 m 12 ls []) := by
    intro n
    induction n with
    | zero => intro x b w hm; exact absurd hm (Nat.not_lt_zero _)
    | succ n ih =>
      intro x b w hm hx0 hx1 hb0 hw0 H locs hP hD hS ls hl
      refine lv_iload_n hx hb dX1_plan_12 rfl (lv_at hl 0 rfl) ?_
      refine va_gets hx hb hZ3 hS hown (hts (.fieldLink RX1 28 "RedTent$Breaker" "POWERS_OF_3" "[I") (by decide +kernel)) (fun _ h9 => h9) dX1_plan_13 ?_
      refine lv_iload_n hx hb dX1_plan_16 rfl (lv_at hl 2 rfl) ?_
      refine va_ti (v := .int (([1, 3, 9, 27, 81, 243] : List Int32).getD p0.toNatClampNeg 0)) hx hb hT3 hS (vp_in_iff.mpr (by (try simp only [fa_lt, fa_le, fa_eq, fa_lt64, fa_le64, fa_eq64, Int32.reduceToInt, Int64.reduceToInt, zi_ite] at hm hx0 hx1 hb0 hw0 ⊢) <;> omega)) rfl dX1_plan_17 ?_
      refine lv_topi (fun y_1 ey_1 => ?_)
      have ty_1 : 1 ≤ y_1.toInt ∧ y_1.toInt ≤ 243 ∧ (p0.toInt = 0 ∨ 3 ≤ y_1.toInt) := by rw [ey_1]; exact rt_pw (by (try simp only [fa_lt, fa_le, fa_eq, fa_lt64, fa_le64, fa_eq64, Int32.reduceToInt, Int64.reduceToInt, zi_ite] at hm hx0 hx1 hb0 hw0 ⊢) <;> omega)
      refine lv_icmp_ge (tgt := 56) hx hb dX1_plan_18 (by decide) (fun c_2 => ?_) (fun c_2 => ?_)
      · have hpost : (b : Int32) = 0 ∧ (w : Int32) = 0 := by
          try simp only [fa_lt, fa_le, fa_eq, fa_lt64, fa_le64, fa_eq64, Int32.reduceToInt, Int64.reduceToInt, zi_ite] at hm
          try simp only [fa_lt, fa_le, fa_eq, fa_lt64, fa_le64, fa_eq64, Int32.reduceToInt, Int64.reduceToInt, zi_ite] at hx0
          try simp only [fa_lt, fa_le, fa_eq, fa_lt64, fa_le64, fa_eq64, Int32.reduceToInt, Int64.reduceToInt, zi_ite] at hx1
          try simp only [fa_lt, fa_le, fa_eq, fa_lt64, fa_le64, fa_eq64, Int32.reduceToInt, Int64.reduceToInt, zi_ite] at hb0
          try simp only [fa_lt, fa_le, fa_eq, fa_lt64, fa_le64, fa_eq64, Int32.reduceToInt, Int64.reduceToInt, zi_ite] at hw0
          try simp only [fa_lt, fa_le, fa_eq, fa_lt64, fa_le64, fa_eq64, Int32.reduceToInt, Int64.reduceToInt, zi_ite] at ty_1
          try simp only [fa_lt, fa_le, fa_eq, fa_lt64, fa_le64, fa_eq64, Int32.reduceToInt, Int64.reduceToInt, zi_ite] at c_2
          simp only [fa_eq, Int32.reduceToInt]; omega
        have hP9 := hP.sub (ws' := [(h1, .inr (1, [.ref (ak 0), .int 0, .int b, .int w]))]) [0] rfl
        have hD9 := hD.sub (ws' := [(h1, .inr (1, [.ref (ak 0), .int 0, .int b, .int w]))]) [0] (by decide) rfl
        refine W.widen (k := 0) (n := 0) (by decide +kernel) (by decide +kernel) ?_
        exact W.vret hx hb hr (fun t ht hW => ⟨⟨(b, w), rfl, hpost, by rw [ht]; exact hP9, hD9⟩, hS.F ht⟩) hS.2.2 dX1_plan_56
      · refine lv_aload_n hx hb dX1_plan_21 rfl (lv_at hl 1 rfl) ?_
        refine lv_iload_n hx hb dX1_plan_22 rfl (lv_at hl 2 rfl) ?_
        refine lv_iload_n hx hb dX1_plan_23 rfl (lv_at hl 3 rfl) ?_
        refine lv_iload_n hx hb dX1_plan_24 rfl (lv_at hl 0 rfl) ?_
        have hPc := hP.sub (ws' := [(h1, .inr (1, [.ref (ak 0), .int 0, .int b, .int w]))]) [0] rfl
        have hKc := hK.sub (tys' := []) [] rfl
        refine vp_callSi (va_Run.run (va_runV (As := [.int p0, .int p1, .int x]) (rest := []) ⟨hx, hb, hml, hown, hts⟩ (rt_X1_leastCells l dC dI h1 ak b w p0 p1 x) (cwV 3 hts gX1_plan_X1_leastCells rfl rfl rfl (by decide +kernel) ⟨Nat.le_of_ble_eq_true rfl, Nat.le_of_ble_eq_true rfl⟩) ⟨fun a U g mk q => by obtain ⟨q0, qP, qK⟩ := q; exact ⟨q0, qP, va_K.moved (u := U) (U := U.calling g mk a) (Vm.Alike.refl U.vm) qK⟩, va_recv hKc hPc (ci := 1) (q0 := 0) rfl rfl, fun U hU hW => ⟨rfl, by rw [hU]; exact hPc, va_K.moved hW.alike hKc⟩⟩ rfl rfl hl.1 rfl (lv_room (Nat.le_of_ble_eq_true rfl)) dX1_plan_25 ⟨by decide +kernel, by decide +kernel⟩)) (fun r_3 hr_3 => ?_)
        obtain rfl := hr_3
        refine lv_istore (lv' := [(4, .int 0), (3, .int x), (0, .ref h1), (1, .int p0), (2, .int p1)]) hx hb dX1_plan_28 hl (by decide) rfl (fun ls hl => ?_)
        refine lv_iload hx hb dX1_plan_30 (lv_at hl 0 rfl) ?_
        refine lv_aload_n hx hb dX1_plan_32 rfl (lv_at hl 2 rfl) ?_
        refine va_get (D := (dC, dI)) (ci := 1) (v := .int b) (C := RX1) (T := TX1) (N := 4) hx hb hts (by decide +kernel) hown hK hP 0 rfl rfl 2 (by decide) (hts (.fieldLink RX1 22 "RedTent$Breaker" "bestCells" "I") (by decide +kernel)) (fun _ h9 => h9) rfl dX1_plan_33 ?_
        refine lv_icmp_le (tgt := 50) hx hb dX1_plan_36 (by decide) (fun c_4 => ?_) (fun c_4 => ?_)
        · obtain ⟨x_5, ex_5⟩ : ∃ y : Int32, y = x + 1 := ⟨_, rfl⟩
          refine lv_iinc (v := x_5) (lv' := [(3, .int x_5), (4, .int 0), (0, .ref h1), (1, .int p0), (2, .int p1)]) hx hb dX1_plan_50 hl (k := 1) rfl (by rw [ex_5]; rfl) (by decide) rfl (fun ls hl => ?_)
          refine lv_goto (tgt := 12) hx hb dX1_plan_53 (by decide) ?_
          try simp only [fa_lt, fa_le, fa_eq, fa_lt64, fa_le64, fa_eq64, Int32.reduceToInt, Int64.reduceToInt, zi_ite] at hm
          try simp only [fa_lt, fa_le, fa_eq, fa_lt64, fa_le64, fa_eq64, Int32.reduceToInt, Int64.reduceToInt, zi_ite] at hx0
          try simp only [fa_lt, fa_le, fa_eq, fa_lt64, fa_le64, fa_eq64, Int32.reduceToInt, Int64.reduceToInt, zi_ite] at hx1
          try simp only [fa_lt, fa_le, fa_eq, fa_lt64, fa_le64, fa_eq64, Int32.reduceToInt, Int64.reduceToInt, zi_ite] at hb0
          try simp only [fa_lt, fa_le, fa_eq, fa_lt64, fa_le64, fa_eq64, Int32.reduceToInt, Int64.reduceToInt, zi_ite] at hw0
          try simp only [fa_lt, fa_le, fa_eq, fa_lt64, fa_le64, fa_eq64, Int32.reduceToInt, Int64.reduceToInt, zi_ite] at ty_1
          try simp only [fa_lt, fa_le, fa_eq, fa_lt64, fa_le64, fa_eq64, Int32.reduceToInt, Int64.reduceToInt, zi_ite] at c_2
          try simp only [fa_lt, fa_le, fa_eq, fa_lt64, fa_le64, fa_eq64, Int32.reduceToInt, Int64.reduceToInt, zi_ite] at c_4
          have tx_5 : x_5.toInt = x.toInt + 1 := by rw [ex_5]; exact zi_inc (by omega)
          exact ih x_5 b w (by omega) (by omega) (by omega) (by omega) (by omega) _ _ hP hD hS ls (lv_sub hl [0, 2, 3, 4] rfl)
        · refine lv_aload_n hx hb dX1_plan_39 rfl (lv_at hl 2 rfl) ?_
          refine lv_iload hx hb dX1_plan_40 (lv_at hl 0 rfl) ?_
          refine va_put (D := (dC, dI)) (ci := 1) (v := .int 0) (ty := .int) (C := RX1) (T := TX1) (N := 4) hx hb hts (by decide +kernel) tyX1 tyX1_ok nmX1 hown hK hP hD hS 0 rfl rfl 2 (by decide) (hts (.fieldLink RX1 22 "RedTent$Breaker" "bestCells" "I") (by decide +kernel)) (fun _ h9 => h9) rfl (by decide +kernel) rfl rfl (Nat.le_of_ble_eq_true rfl) dX1_plan_42 (fun H locs hP hD hS => ?_)
          have hP : va_P (dC, dI) vwCl [(h1, .inr (1, [.ref (ak 0), .int 0, .int 0, .int w]))] H := hP
          have hD : va_D A [(h1, .inr (1, [.ref (ak 0), .int 0, .int 0, .int w]))] := hD
          refine lv_aload_n hx hb dX1_plan_45 rfl (lv_at hl 2 rfl) ?_
          refine lv_iload_n hx hb dX1_plan_46 rfl (lv_at hl 1 rfl) ?_
          refine va_put (D := (dC, dI)) (ci := 1) (v := .int x) (ty := .int) (C := RX1) (T := TX1) (N := 4) hx hb hts (by decide +kernel) tyX1 tyX1_ok nmX1 hown hK hP hD hS 0 rfl rfl 3 (by decide) (hts (.fieldLink RX1 25 "RedTent$Breaker" "bestWays" "I") (by decide +kernel)) (fun _ h9 => h9) rfl (by decide +kernel) rfl rfl (Nat.le_of_ble_eq_true rfl) dX1_plan_47 (fun H locs hP hD hS => ?_)
          have hP : va_P (dC, dI) vwCl [(h1, .inr (1, [.ref (ak 0), .int 0, .int 0, .int x]))] H := hP
          have hD : va_D A [(h1, .inr (1, [.ref (ak 0), .int 0, .int 0, .int x]))] := hD
          obtain ⟨x_6, ex_6⟩ : ∃ y : Int32, y = x + 1 := ⟨_, rfl⟩
          refine lv_iinc (v := x_6) (lv' := [(3, .int x_6), (4, .int 0), (0, .ref h1), (1, .int p0), (2, .int p1)]) hx hb dX1_plan_50 hl (k := 1) rfl (by rw [ex_6]; rfl) (by decide) rfl (fun ls hl => ?_)
          refine lv_goto (tgt := 12) hx hb dX1_plan_53 (by decide) ?_
          try simp only [fa_lt, fa_le, fa_eq, fa_lt64, fa_le64, fa_eq64, Int32.reduceToInt, Int64.reduceToInt, zi_ite] at hm
          try simp only [fa_lt, fa_le, fa_eq, fa_lt64, fa_le64, fa_eq64, Int32.reduceToInt, Int64.reduceToInt, zi_ite] at hx0
          try simp only [fa_lt, fa_le, fa_eq, fa_lt64, fa_le64, fa_eq64, Int32.reduceToInt, Int64.reduceToInt, zi_ite] at hx1
          try simp only [fa_lt, fa_le, fa_eq, fa_lt64, fa_le64, fa_eq64, Int32.reduceToInt, Int64.reduceToInt, zi_ite] at hb0
          try simp only [fa_lt, fa_le, fa_eq, fa_lt64, fa_le64, fa_eq64, Int32.reduceToInt, Int64.reduceToInt, zi_ite] at hw0
          try simp only [fa_lt, fa_le, fa_eq, fa_lt64, fa_le64, fa_eq64, Int32.reduceToInt, Int64.reduceToInt, zi_ite] at ty_1
          try simp only [fa_lt, fa_le, fa_eq, fa_lt64, fa_le64, fa_eq64, Int32.reduceToInt, Int64.reduceToInt, zi_ite] at c_2
          try simp only [fa_lt, fa_le, fa_eq, fa_lt64, fa_le64, fa_eq64, Int32.reduceToInt, Int64.reduceToInt, zi_ite] at c_4
          have tx_6 : x_6.toInt = x.toInt + 1 := by rw [ex_6]; exact zi_inc (by omega)
          exact ih x_6 0 x (by omega) (by omega) (by omega) (Or.inr ⟨by omega, by decide⟩) (by omega) _ _ hP hD hS ls (lv_sub hl [0, 2, 3, 4] rfl)
  exact lp _ 0 (-1) 0 (Nat.lt_succ_self _) (by decide) (by decide) (by decide) (by decide) _ _ hP hD hS ls hl
set_option maxHeartbeats 1000000 in
set_option maxRecDepth 100000 in
theorem rt_X1_wayOn (l : Launch) (dC : Nat → ClassId) (dI : Nat → Nat → Nat) (h1 : Nat) (ak : Nat → Nat) (b w : Int32) (p0 p1 : Int32) (hp0 : 0 ≤ p0.toInt ∧ p0.toInt < p1.toInt ∧ p1.toInt ≤ 5) : Met l yX1_wayOn wsX1_wayOn ({ frames := 0, cells := 0, slots := 0, locals := 0 }) (va_Pc [.ref h1, .int p0, .int p1, .int 0] (fun U => va_P (dC, dI) vwCl [(h1, .inr (1, [.ref (ak 0), .int 0, .int b, .int w]))] U.heap ∧ va_K (dC, dI) vwCl [] U ∧ rt_T (fun _ => False) U U.heap)) (vp_Si (fun r : Int32 => r = 0)) 0 0 (fun _ => False) := by
  refine Met.ofW (cc := cX1_wayOn) (maxL := 4) (ret := (some .int)) (by decide) rfl ?_
  intro p e s m args below meth c s₁ B hml hv
  obtain ⟨rfl, hP, hK, hT⟩ := hv
  have hx := B.exec
  have hb := B.bytes
  have hr := B.returns
  have hts := atoms_spec (ws := wsX1_wayOn) B.pre
  have hown : s.vm.findClass RX1 = some m.cls := findClass_of_methodNamed B.named
  have hlocks := B.notSynchronized
  have hS : va_S (fun _ => False) s.heap s.heap [] := va_S.rf
  obtain ⟨⟨t1s, hZ1, hT1⟩, ⟨t2s, hZ2, hT2⟩, ⟨t3s, hZ3, hT3⟩⟩ := id hT
  have hl := lv_entry ([.ref h1, .int p0, .int p1, .int 0]) (n := 4) (Nat.le_of_ble_eq_true rfl)
  rw [lg_entry_eq]
  generalize (lg_sl ([.ref h1, .int p0, .int p1, .int 0]) ++ List.replicate (4 - (lg_sl ([.ref h1, .int p0, .int p1, .int 0])).length) Slot.unset).toArray = ls at hl ⊢
  have hl : lv_has ls 4 [(0, .ref h1), (1, .int p0), (2, .int p1), (3, .int 0)] := hl
  refine lv_iload_n hx hb dX1_wayOn_0 rfl (lv_at hl 3 rfl) ?_
  refine va_gets hx hb hZ3 hS hown (hts (.fieldLink RX1 28 "RedTent$Breaker" "POWERS_OF_3" "[I") (by decide +kernel)) (fun _ h9 => h9) dX1_wayOn_1 ?_
  refine lv_iload_n hx hb dX1_wayOn_4 rfl (lv_at hl 2 rfl) ?_
  refine lv_iconst (v := 1) hx hb dX1_wayOn_5 (by decide) ?_
  refine lv_isub hx hb dX1_wayOn_6 ?_
  refine lv_topi (fun y_1 ey_1 => ?_)
  have ty_1 : y_1.toInt = p1.toInt - 1 := by
    rw [ey_1]; exact (zi_sub _ _ (by (try simp only [Int32.reduceToInt]) <;> omega) (by (try simp only [Int32.reduceToInt]) <;> omega))
  refine lv_iload_n hx hb dX1_wayOn_7 rfl (lv_at hl 1 rfl) ?_
  refine lv_isub hx hb dX1_wayOn_8 ?_
  refine lv_topi (fun y_2 ey_2 => ?_)
  have ty_2 : y_2.toInt = y_1.toInt - p0.toInt := by
    try simp only [fa_lt, fa_le, fa_eq, fa_lt64, fa_le64, fa_eq64, Int32.reduceToInt, Int64.reduceToInt, zi_ite] at ty_1
    rw [ey_2]; exact (zi_sub _ _ (by (try simp only [Int32.reduceToInt]) <;> omega) (by (try simp only [Int32.reduceToInt]) <;> omega))
  refine va_ti (v := .int (([1, 3, 9, 27, 81, 243] : List Int32).getD y_2.toNatClampNeg 0)) hx hb hT3 hS (vp_in_iff.mpr (by (try simp only [fa_lt, fa_le, fa_eq, fa_lt64, fa_le64, fa_eq64, Int32.reduceToInt, Int64.reduceToInt, zi_ite] at ty_1 ty_2 ⊢) <;> omega)) rfl dX1_wayOn_9 ?_
  refine lv_topi (fun y_3 ey_3 => ?_)
  have ty_3 : 1 ≤ y_3.toInt ∧ y_3.toInt ≤ 243 ∧ (y_2.toInt = 0 ∨ 3 ≤ y_3.toInt) := by rw [ey_3]; exact rt_pw (by (try simp only [fa_lt, fa_le, fa_eq, fa_lt64, fa_le64, fa_eq64, Int32.reduceToInt, Int64.reduceToInt, zi_ite] at ty_1 ty_2 ⊢) <;> omega)
  refine lv_idiv hx hb dX1_wayOn_10 (fun h => by rw [h] at ty_3; simp at ty_3) ?_
  refine lv_iconst (v := 3) hx hb dX1_wayOn_11 (by decide) ?_
  refine lv_irem hx hb dX1_wayOn_12 (by decide) ?_
  have hpost : ((0 / y_3) - (0 / y_3) / 3 * 3 : Int32) = 0 := by simp only [zi_0div]; decide
  exact W.iret (v := (0 / y_3) - (0 / y_3) / 3 * 3) hx hb hr (fun t ht hW => ⟨(0 / y_3) - (0 / y_3) / 3 * 3, rfl, hpost, ht⟩) (fun _ h => absurd h List.not_mem_nil) dX1_wayOn_13
set_option maxHeartbeats 1000000 in
set_option maxRecDepth 100000 in
theorem rt_X11_days (l : Launch) (dC : Nat → ClassId) (dI : Nat → Nat → Nat) (sz : Nat) (h0 : Nat) (ad : Nat → Nat) (ak : Nat → Nat) (p0 p1 p2 : Int32) : Met l yX11_days wsX11_days ({ frames := 2, cells := 0, slots := 0, locals := 49 }) (va_Pc [.ref h0, .int p0, .int p1, .int p2] (fun U => U.heap.size = sz ∧ va_P (dC, dI) vwCl [(h0, .inr (11, [.ref (ad 0), .ref (ad 1), .ref (ad 2), .ref (ad 3), .ref (ad 4), .ref (ad 5), .ref (ad 6), .ref (ad 7), .ref (ad 8), .int 0, .int 0, .int 0, .int 0])), (ad 7, .inr (1, [.ref (ak 0), .int 0, .int 0, .int 0]))] U.heap ∧ va_K (dC, dI) vwCl [] U ∧ va_D (fun _ => True) [(h0, .inr (11, [.ref (ad 0), .ref (ad 1), .ref (ad 2), .ref (ad 3), .ref (ad 4), .ref (ad 5), .ref (ad 6), .ref (ad 7), .ref (ad 8), .int 0, .int 0, .int 0, .int 0])), (ad 7, .inr (1, [.ref (ak 0), .int 0, .int 0, .int 0]))] ∧ rt_T (va_A [(h0, .inr (11, [.ref (ad 0), .ref (ad 1), .ref (ad 2), .ref (ad 3), .ref (ad 4), .ref (ad 5), .ref (ad 6), .ref (ad 7), .ref (ad 8), .int 0, .int 0, .int 0, .int 0])), (ad 7, .inr (1, [.ref (ak 0), .int 0, .int 0, .int 0]))] sz) U U.heap)) (va_Qi (fun (r : Int32) (u : Unit) => match u with | () => ((¬ (1 ≤ p0 ∧ p0 ≤ 5 ∧ 0 ≤ p1 ∧ p1 ≤ 99)) ∧ r = (-2)) ∨ (((1 ≤ p0 ∧ p0 ≤ 5 ∧ 0 ≤ p1 ∧ p1 ≤ 99) ∧ ¬ (-1 ≤ p2 ∧ p2 < p0)) ∧ r = (-1)) ∨ (((1 ≤ p0 ∧ p0 ≤ 5 ∧ 0 ≤ p1 ∧ p1 ≤ 99) ∧ -1 ≤ p2 ∧ p2 < p0) ∧ r = 0)) (fun (u : Unit) (t : State) => match u with | () => True) (va_A [(h0, .inr (11, [.ref (ad 0), .ref (ad 1), .ref (ad 2), .ref (ad 3), .ref (ad 4), .ref (ad 5), .ref (ad 6), .ref (ad 7), .ref (ad 8), .int 0, .int 0, .int 0, .int 0])), (ad 7, .inr (1, [.ref (ak 0), .int 0, .int 0, .int 0]))] sz)) 0 0 (va_A [(h0, .inr (11, [.ref (ad 0), .ref (ad 1), .ref (ad 2), .ref (ad 3), .ref (ad 4), .ref (ad 5), .ref (ad 6), .ref (ad 7), .ref (ad 8), .int 0, .int 0, .int 0, .int 0])), (ad 7, .inr (1, [.ref (ak 0), .int 0, .int 0, .int 0]))] sz) := by
  refine Met.ofW (cc := cX11_days) (maxL := 4) (ret := (some .int)) (by decide) rfl ?_
  intro p e s m args below meth c s₁ B hml hv
  obtain ⟨rfl, hsz, hP, hK, hD0, hT⟩ := hv
  have hx := B.exec
  have hb := B.bytes
  have hr := B.returns
  have hts := atoms_spec (ws := wsX11_days) B.pre
  have hown : s.vm.findClass RX11 = some m.cls := findClass_of_methodNamed B.named
  have hlocks := B.notSynchronized
  subst hsz
  have hD := hD0.self (sz := s.heap.size)
  have hT : rt_T (va_A [(h0, .inr (11, [.ref (ad 0), .ref (ad 1), .ref (ad 2), .ref (ad 3), .ref (ad 4), .ref (ad 5), .ref (ad 6), .ref (ad 7), .ref (ad 8), .int 0, .int 0, .int 0, .int 0])), (ad 7, .inr (1, [.ref (ak 0), .int 0, .int 0, .int 0]))] s.heap.size) s s.heap := hT
  generalize hAe : va_A [(h0, .inr (11, [.ref (ad 0), .ref (ad 1), .ref (ad 2), .ref (ad 3), .ref (ad 4), .ref (ad 5), .ref (ad 6), .ref (ad 7), .ref (ad 8), .int 0, .int 0, .int 0, .int 0])), (ad 7, .inr (1, [.ref (ak 0), .int 0, .int 0, .int 0]))] s.heap.size = A at hD hT ⊢
  have hA : ∀ q : Nat, s.heap.size ≤ q → A q := fun q h => by rw [← hAe]; exact Or.inr h
  have hS : va_S A s.heap s.heap [] := va_S.rf
  obtain ⟨⟨t1s, hZ1, hT1⟩, ⟨t2s, hZ2, hT2⟩, ⟨t3s, hZ3, hT3⟩⟩ := id hT
  have hl := lv_entry ([.ref h0, .int p0, .int p1, .int p2]) (n := 4) (Nat.le_of_ble_eq_true rfl)
  rw [lg_entry_eq]
  generalize (lg_sl ([.ref h0, .int p0, .int p1, .int p2]) ++ List.replicate (4 - (lg_sl ([.ref h0, .int p0, .int p1, .int p2])).length) Slot.unset).toArray = ls at hl ⊢
  have hl : lv_has ls 4 [(0, .ref h0), (1, .int p0), (2, .int p1), (3, .int p2)] := hl
  refine lv_iload_n hx hb dX11_days_0 rfl (lv_at hl 1 rfl) ?_
  refine lv_iconst (v := 1) hx hb dX11_days_1 (by decide) ?_
  refine lv_icmp_lt (tgt := 20) hx hb dX11_days_2 (by decide) (fun c_1 => ?_) (fun c_1 => ?_)
  · refine lv_bipush (v := (-2)) hx hb dX11_days_20 (by decide) ?_
    have hpost : ((¬ (1 ≤ p0 ∧ p0 ≤ 5 ∧ 0 ≤ p1 ∧ p1 ≤ 99)) ∧ ((-2) : Int32) = (-2)) ∨ (((1 ≤ p0 ∧ p0 ≤ 5 ∧ 0 ≤ p1 ∧ p1 ≤ 99) ∧ ¬ (-1 ≤ p2 ∧ p2 < p0)) ∧ ((-2) : Int32) = (-1)) ∨ (((1 ≤ p0 ∧ p0 ≤ 5 ∧ 0 ≤ p1 ∧ p1 ≤ 99) ∧ -1 ≤ p2 ∧ p2 < p0) ∧ ((-2) : Int32) = 0) := by
      try simp only [fa_lt, fa_le, fa_eq, fa_lt64, fa_le64, fa_eq64, Int32.reduceToInt, Int64.reduceToInt, zi_ite] at c_1
      first
      | exact Or.inl ⟨by (try simp only [fa_lt, fa_le, fa_eq, fa_lt64, fa_le64, fa_eq64, Int32.reduceToInt, Int64.reduceToInt, zi_ite]); omega, rfl⟩
      | exact Or.inr (Or.inl ⟨by (try simp only [fa_lt, fa_le, fa_eq, fa_lt64, fa_le64, fa_eq64, Int32.reduceToInt, Int64.reduceToInt, zi_ite]); omega, rfl⟩)
      | exact Or.inr (Or.inr (⟨by (try simp only [fa_lt, fa_le, fa_eq, fa_lt64, fa_le64, fa_eq64, Int32.reduceToInt, Int64.reduceToInt, zi_ite]); omega, rfl⟩))
    refine W.widen (k := 0) (n := 0) (by decide +kernel) (by decide +kernel) ?_
    exact W.iret (v := (-2)) hx hb hr (fun t ht hW => ⟨⟨(-2), (), rfl, hpost, trivial⟩, hS.F ht⟩) hS.2.2 dX11_days_22
  · refine lv_iload_n hx hb dX11_days_5 rfl (lv_at hl 1 rfl) ?_
    refine lv_iconst (v := 5) hx hb dX11_days_6 (by decide) ?_
    refine lv_icmp_gt (tgt := 20) hx hb dX11_days_7 (by decide) (fun c_2 => ?_) (fun c_2 => ?_)
    · refine lv_bipush (v := (-2)) hx hb dX11_days_20 (by decide) ?_
      have hpost : ((¬ (1 ≤ p0 ∧ p0 ≤ 5 ∧ 0 ≤ p1 ∧ p1 ≤ 99)) ∧ ((-2) : Int32) = (-2)) ∨ (((1 ≤ p0 ∧ p0 ≤ 5 ∧ 0 ≤ p1 ∧ p1 ≤ 99) ∧ ¬ (-1 ≤ p2 ∧ p2 < p0)) ∧ ((-2) : Int32) = (-1)) ∨ (((1 ≤ p0 ∧ p0 ≤ 5 ∧ 0 ≤ p1 ∧ p1 ≤ 99) ∧ -1 ≤ p2 ∧ p2 < p0) ∧ ((-2) : Int32) = 0) := by
        try simp only [fa_lt, fa_le, fa_eq, fa_lt64, fa_le64, fa_eq64, Int32.reduceToInt, Int64.reduceToInt, zi_ite] at c_1
        try simp only [fa_lt, fa_le, fa_eq, fa_lt64, fa_le64, fa_eq64, Int32.reduceToInt, Int64.reduceToInt, zi_ite] at c_2
        first
        | exact Or.inl ⟨by (try simp only [fa_lt, fa_le, fa_eq, fa_lt64, fa_le64, fa_eq64, Int32.reduceToInt, Int64.reduceToInt, zi_ite]); omega, rfl⟩
        | exact Or.inr (Or.inl ⟨by (try simp only [fa_lt, fa_le, fa_eq, fa_lt64, fa_le64, fa_eq64, Int32.reduceToInt, Int64.reduceToInt, zi_ite]); omega, rfl⟩)
        | exact Or.inr (Or.inr (⟨by (try simp only [fa_lt, fa_le, fa_eq, fa_lt64, fa_le64, fa_eq64, Int32.reduceToInt, Int64.reduceToInt, zi_ite]); omega, rfl⟩))
      refine W.widen (k := 0) (n := 0) (by decide +kernel) (by decide +kernel) ?_
      exact W.iret (v := (-2)) hx hb hr (fun t ht hW => ⟨⟨(-2), (), rfl, hpost, trivial⟩, hS.F ht⟩) hS.2.2 dX11_days_22
    · refine lv_iload_n hx hb dX11_days_10 rfl (lv_at hl 2 rfl) ?_
      refine lv_if_lt (tgt := 20) hx hb dX11_days_11 (by decide) (fun c_3 => ?_) (fun c_3 => ?_)
      · refine lv_bipush (v := (-2)) hx hb dX11_days_20 (by decide) ?_
        have hpost : ((¬ (1 ≤ p0 ∧ p0 ≤ 5 ∧ 0 ≤ p1 ∧ p1 ≤ 99)) ∧ ((-2) : Int32) = (-2)) ∨ (((1 ≤ p0 ∧ p0 ≤ 5 ∧ 0 ≤ p1 ∧ p1 ≤ 99) ∧ ¬ (-1 ≤ p2 ∧ p2 < p0)) ∧ ((-2) : Int32) = (-1)) ∨ (((1 ≤ p0 ∧ p0 ≤ 5 ∧ 0 ≤ p1 ∧ p1 ≤ 99) ∧ -1 ≤ p2 ∧ p2 < p0) ∧ ((-2) : Int32) = 0) := by
          try simp only [fa_lt, fa_le, fa_eq, fa_lt64, fa_le64, fa_eq64, Int32.reduceToInt, Int64.reduceToInt, zi_ite] at c_1
          try simp only [fa_lt, fa_le, fa_eq, fa_lt64, fa_le64, fa_eq64, Int32.reduceToInt, Int64.reduceToInt, zi_ite] at c_2
          try simp only [fa_lt, fa_le, fa_eq, fa_lt64, fa_le64, fa_eq64, Int32.reduceToInt, Int64.reduceToInt, zi_ite] at c_3
          first
          | exact Or.inl ⟨by (try simp only [fa_lt, fa_le, fa_eq, fa_lt64, fa_le64, fa_eq64, Int32.reduceToInt, Int64.reduceToInt, zi_ite]); omega, rfl⟩
          | exact Or.inr (Or.inl ⟨by (try simp only [fa_lt, fa_le, fa_eq, fa_lt64, fa_le64, fa_eq64, Int32.reduceToInt, Int64.reduceToInt, zi_ite]); omega, rfl⟩)
          | exact Or.inr (Or.inr (⟨by (try simp only [fa_lt, fa_le, fa_eq, fa_lt64, fa_le64, fa_eq64, Int32.reduceToInt, Int64.reduceToInt, zi_ite]); omega, rfl⟩))
        refine W.widen (k := 0) (n := 0) (by decide +kernel) (by decide +kernel) ?_
        exact W.iret (v := (-2)) hx hb hr (fun t ht hW => ⟨⟨(-2), (), rfl, hpost, trivial⟩, hS.F ht⟩) hS.2.2 dX11_days_22
      · refine lv_iload_n hx hb dX11_days_14 rfl (lv_at hl 2 rfl) ?_
        refine lv_bipush (v := 99) hx hb dX11_days_15 (by decide) ?_
        refine lv_icmp_le (tgt := 23) hx hb dX11_days_17 (by decide) (fun c_4 => ?_) (fun c_4 => ?_)
        · refine lv_iload_n hx hb dX11_days_23 rfl (lv_at hl 3 rfl) ?_
          refine lv_iconst (v := (-1)) hx hb dX11_days_24 (by decide) ?_
          refine lv_icmp_lt (tgt := 33) hx hb dX11_days_25 (by decide) (fun c_5 => ?_) (fun c_5 => ?_)
          · refine lv_iconst (v := (-1)) hx hb dX11_days_33 (by decide) ?_
            have hpost : ((¬ (1 ≤ p0 ∧ p0 ≤ 5 ∧ 0 ≤ p1 ∧ p1 ≤ 99)) ∧ ((-1) : Int32) = (-2)) ∨ (((1 ≤ p0 ∧ p0 ≤ 5 ∧ 0 ≤ p1 ∧ p1 ≤ 99) ∧ ¬ (-1 ≤ p2 ∧ p2 < p0)) ∧ ((-1) : Int32) = (-1)) ∨ (((1 ≤ p0 ∧ p0 ≤ 5 ∧ 0 ≤ p1 ∧ p1 ≤ 99) ∧ -1 ≤ p2 ∧ p2 < p0) ∧ ((-1) : Int32) = 0) := by
              try simp only [fa_lt, fa_le, fa_eq, fa_lt64, fa_le64, fa_eq64, Int32.reduceToInt, Int64.reduceToInt, zi_ite] at c_1
              try simp only [fa_lt, fa_le, fa_eq, fa_lt64, fa_le64, fa_eq64, Int32.reduceToInt, Int64.reduceToInt, zi_ite] at c_2
              try simp only [fa_lt, fa_le, fa_eq, fa_lt64, fa_le64, fa_eq64, Int32.reduceToInt, Int64.reduceToInt, zi_ite] at c_3
              try simp only [fa_lt, fa_le, fa_eq, fa_lt64, fa_le64, fa_eq64, Int32.reduceToInt, Int64.reduceToInt, zi_ite] at c_4
              try simp only [fa_lt, fa_le, fa_eq, fa_lt64, fa_le64, fa_eq64, Int32.reduceToInt, Int64.reduceToInt, zi_ite] at c_5
              first
              | exact Or.inl ⟨by (try simp only [fa_lt, fa_le, fa_eq, fa_lt64, fa_le64, fa_eq64, Int32.reduceToInt, Int64.reduceToInt, zi_ite]); omega, rfl⟩
              | exact Or.inr (Or.inl ⟨by (try simp only [fa_lt, fa_le, fa_eq, fa_lt64, fa_le64, fa_eq64, Int32.reduceToInt, Int64.reduceToInt, zi_ite]); omega, rfl⟩)
              | exact Or.inr (Or.inr (⟨by (try simp only [fa_lt, fa_le, fa_eq, fa_lt64, fa_le64, fa_eq64, Int32.reduceToInt, Int64.reduceToInt, zi_ite]); omega, rfl⟩))
            refine W.widen (k := 0) (n := 0) (by decide +kernel) (by decide +kernel) ?_
            exact W.iret (v := (-1)) hx hb hr (fun t ht hW => ⟨⟨(-1), (), rfl, hpost, trivial⟩, hS.F ht⟩) hS.2.2 dX11_days_34
          · refine lv_iload_n hx hb dX11_days_28 rfl (lv_at hl 3 rfl) ?_
            refine lv_iload_n hx hb dX11_days_29 rfl (lv_at hl 1 rfl) ?_
            refine lv_icmp_lt (tgt := 35) hx hb dX11_days_30 (by decide) (fun c_6 => ?_) (fun c_6 => ?_)
            · refine lv_aload_n hx hb dX11_days_35 rfl (lv_at hl 0 rfl) ?_
              refine va_get (D := (dC, dI)) (ci := 11) (v := .ref (ad 7)) (C := RX11) (T := TX11) (N := 13) hx hb hts (by decide +kernel) hown hK hP 0 rfl rfl 7 (by decide) (hts (.fieldLink RX11 60 "RedTent" "breaker" "LRedTent$Breaker;") (by decide +kernel)) (fun _ h9 => h9) rfl dX11_days_36 ?_
              refine lv_iload_n hx hb dX11_days_39 rfl (lv_at hl 1 rfl) ?_
              refine lv_iload_n hx hb dX11_days_40 rfl (lv_at hl 2 rfl) ?_
              have hPc := hP.sub (ws' := [(ad 7, .inr (1, [.ref (ak 0), .int 0, .int 0, .int 0]))]) [1] rfl
              have hKc := hK.sub (tys' := []) [] rfl
              have hDc := hD.sub (ws' := [(ad 7, .inr (1, [.ref (ak 0), .int 0, .int 0, .int 0]))]) [1] (by decide) rfl
              have hFc := va_free (wc := [(ad 7, .inr (1, [.ref (ak 0), .int 0, .int 0, .int 0]))]) hD hS hA [1] rfl
              refine va_callv (va_runV (As := [.int p0, .int p1]) (rest := []) ⟨hx, hb, hml, hown, hts⟩ (rt_X1_plan l dC dI s.heap.size (ad 7) ak p0 p1 (by (try simp only [fa_lt, fa_le, fa_eq, fa_lt64, fa_le64, fa_eq64, Int32.reduceToInt, Int64.reduceToInt, zi_ite] at c_1 c_2 c_3 c_4 c_5 c_6 ⊢) <;> omega)) (cwV 2 hts gX11_days_X1_plan rfl rfl rfl (by decide +kernel) ⟨Nat.le_of_ble_eq_true rfl, Nat.le_of_ble_eq_true rfl⟩) ⟨fun a U g mk q => by obtain ⟨q0, q1, qP, qK, qD, qe0⟩ := q; exact ⟨q0, q1, qP, va_K.moved (u := U) (U := U.calling g mk a) (Vm.Alike.refl U.vm) qK, qD, rt_T.same qe0⟩, va_recv hKc hPc (ci := 1) (q0 := 0) rfl rfl, fun U hU hW => ⟨rfl, by rw [hU], by rw [hU]; exact hPc, va_K.moved hW.alike hKc, hDc.weaken (fun _ _ _ _ => trivial), rt_T.give hT hS hFc hU hW.alike⟩⟩ rfl rfl hl.1 rfl (lv_room (Nat.le_of_ble_eq_true rfl)) dX11_days_41 ⟨by decide +kernel, by decide +kernel⟩) hS (fun q _ h => hFc q h) hFc (fun u t H1 locs ht hvm hr_7 hB hz1 hk1 hS => ?_)
              obtain ⟨b2_8, w2_9⟩ := u
              obtain ⟨hP1, hD1⟩ := hB
              rw [ht] at hP1
              obtain ⟨hP, hD⟩ := va_join (wr := [(h0, .inr (11, [.ref (ad 0), .ref (ad 1), .ref (ad 2), .ref (ad 3), .ref (ad 4), .ref (ad 5), .ref (ad 6), .ref (ad 7), .ref (ad 8), .int 0, .int 0, .int 0, .int 0]))]) (w1 := [(ad 7, .inr (1, [.ref (ak 0), .int 0, .int b2_8, .int w2_9]))]) hP hD [1] [0] rfl rfl (by decide) (by decide) hk1 hFc hP1 hD1
              generalize H1 = H at hP hS ⊢
              have hP : va_P (dC, dI) vwCl [(h0, .inr (11, [.ref (ad 0), .ref (ad 1), .ref (ad 2), .ref (ad 3), .ref (ad 4), .ref (ad 5), .ref (ad 6), .ref (ad 7), .ref (ad 8), .int 0, .int 0, .int 0, .int 0])), (ad 7, .inr (1, [.ref (ak 0), .int 0, .int b2_8, .int w2_9]))] H := hP
              have hD : va_D A [(h0, .inr (11, [.ref (ad 0), .ref (ad 1), .ref (ad 2), .ref (ad 3), .ref (ad 4), .ref (ad 5), .ref (ad 6), .ref (ad 7), .ref (ad 8), .int 0, .int 0, .int 0, .int 0])), (ad 7, .inr (1, [.ref (ak 0), .int 0, .int b2_8, .int w2_9]))] := hD
              try dsimp only at hr_7
              obtain ⟨rfl, rfl⟩ := hr_7
              have hP : va_P (dC, dI) vwCl [(h0, .inr (11, [.ref (ad 0), .ref (ad 1), .ref (ad 2), .ref (ad 3), .ref (ad 4), .ref (ad 5), .ref (ad 6), .ref (ad 7), .ref (ad 8), .int 0, .int 0, .int 0, .int 0])), (ad 7, .inr (1, [.ref (ak 0), .int 0, .int 0, .int 0]))] H := hP
              have hD : va_D A [(h0, .inr (11, [.ref (ad 0), .ref (ad 1), .ref (ad 2), .ref (ad 3), .ref (ad 4), .ref (ad 5), .ref (ad 6), .ref (ad 7), .ref (ad 8), .int 0, .int 0, .int 0, .int 0])), (ad 7, .inr (1, [.ref (ak 0), .int 0, .int 0, .int 0]))] := hD
              refine lv_iload_n hx hb dX11_days_44 rfl (lv_at hl 3 rfl) ?_
              refine lv_iconst (v := (-1)) hx hb dX11_days_45 (by decide) ?_
              refine lv_icmp_ne (tgt := 59) hx hb dX11_days_46 (by decide) (fun c_10 => ?_) (fun c_10 => ?_)
              · refine lv_aload_n hx hb dX11_days_59 rfl (lv_at hl 0 rfl) ?_
                refine va_get (D := (dC, dI)) (ci := 11) (v := .ref (ad 7)) (C := RX11) (T := TX11) (N := 13) hx hb hts (by decide +kernel) hown hK hP 0 rfl rfl 7 (by decide) (hts (.fieldLink RX11 60 "RedTent" "breaker" "LRedTent$Breaker;") (by decide +kernel)) (fun _ h9 => h9) rfl dX11_days_60 ?_
                refine lv_iload_n hx hb dX11_days_63 rfl (lv_at hl 3 rfl) ?_
                refine lv_iload_n hx hb dX11_days_64 rfl (lv_at hl 1 rfl) ?_
                refine lv_aload_n hx hb dX11_days_65 rfl (lv_at hl 0 rfl) ?_
                refine va_get (D := (dC, dI)) (ci := 11) (v := .ref (ad 7)) (C := RX11) (T := TX11) (N := 13) hx hb hts (by decide +kernel) hown hK hP 0 rfl rfl 7 (by decide) (hts (.fieldLink RX11 60 "RedTent" "breaker" "LRedTent$Breaker;") (by decide +kernel)) (fun _ h9 => h9) rfl dX11_days_66 ?_
                refine va_get (D := (dC, dI)) (ci := 1) (v := .int 0) (C := RX1) (T := TX1) (N := 4) hx hb hts (by decide +kernel) hown hK hP 1 rfl rfl 3 (by decide) (hts (.fieldLink RX11 342 "RedTent$Breaker" "bestWays" "I") (by decide +kernel)) (fun _ h9 => h9) rfl dX11_days_69 ?_
                have hPc := hP.sub (ws' := [(ad 7, .inr (1, [.ref (ak 0), .int 0, .int 0, .int 0]))]) [1] rfl
                have hKc := hK.sub (tys' := []) [] rfl
                refine vp_callSi (va_Run.run (va_runV (As := [.int p2, .int p0, .int 0]) (rest := []) ⟨hx, hb, hml, hown, hts⟩ (rt_X1_wayOn l dC dI (ad 7) ak 0 0 p2 p0 (by (try simp only [fa_lt, fa_le, fa_eq, fa_lt64, fa_le64, fa_eq64, Int32.reduceToInt, Int64.reduceToInt, zi_ite] at c_1 c_2 c_3 c_4 c_5 c_6 c_10 ⊢) <;> omega)) (cwV 3 hts gX11_days_X1_wayOn rfl rfl rfl (by decide +kernel) ⟨Nat.le_of_ble_eq_true rfl, Nat.le_of_ble_eq_true rfl⟩) ⟨fun a U g mk q => by obtain ⟨q0, qP, qK, qe0⟩ := q; exact ⟨q0, qP, va_K.moved (u := U) (U := U.calling g mk a) (Vm.Alike.refl U.vm) qK, rt_T.same qe0⟩, va_recv hKc hPc (ci := 1) (q0 := 0) rfl rfl, fun U hU hW => ⟨rfl, by rw [hU]; exact hPc, va_K.moved hW.alike hKc, rt_T.give hT hS (fun _ h => h.elim) hU hW.alike⟩⟩ rfl rfl hl.1 rfl (lv_room (Nat.le_of_ble_eq_true rfl)) dX11_days_72 ⟨by decide +kernel, by decide +kernel⟩)) (fun r_11 hr_11 => ?_)
                obtain rfl := hr_11
                have hpost : ((¬ (1 ≤ p0 ∧ p0 ≤ 5 ∧ 0 ≤ p1 ∧ p1 ≤ 99)) ∧ (0 : Int32) = (-2)) ∨ (((1 ≤ p0 ∧ p0 ≤ 5 ∧ 0 ≤ p1 ∧ p1 ≤ 99) ∧ ¬ (-1 ≤ p2 ∧ p2 < p0)) ∧ (0 : Int32) = (-1)) ∨ (((1 ≤ p0 ∧ p0 ≤ 5 ∧ 0 ≤ p1 ∧ p1 ≤ 99) ∧ -1 ≤ p2 ∧ p2 < p0) ∧ (0 : Int32) = 0) := by
                  try simp only [fa_lt, fa_le, fa_eq, fa_lt64, fa_le64, fa_eq64, Int32.reduceToInt, Int64.reduceToInt, zi_ite] at c_1
                  try simp only [fa_lt, fa_le, fa_eq, fa_lt64, fa_le64, fa_eq64, Int32.reduceToInt, Int64.reduceToInt, zi_ite] at c_2
                  try simp only [fa_lt, fa_le, fa_eq, fa_lt64, fa_le64, fa_eq64, Int32.reduceToInt, Int64.reduceToInt, zi_ite] at c_3
                  try simp only [fa_lt, fa_le, fa_eq, fa_lt64, fa_le64, fa_eq64, Int32.reduceToInt, Int64.reduceToInt, zi_ite] at c_4
                  try simp only [fa_lt, fa_le, fa_eq, fa_lt64, fa_le64, fa_eq64, Int32.reduceToInt, Int64.reduceToInt, zi_ite] at c_5
                  try simp only [fa_lt, fa_le, fa_eq, fa_lt64, fa_le64, fa_eq64, Int32.reduceToInt, Int64.reduceToInt, zi_ite] at c_6
                  try simp only [fa_lt, fa_le, fa_eq, fa_lt64, fa_le64, fa_eq64, Int32.reduceToInt, Int64.reduceToInt, zi_ite] at c_10
                  first
                  | exact Or.inl ⟨by (try simp only [fa_lt, fa_le, fa_eq, fa_lt64, fa_le64, fa_eq64, Int32.reduceToInt, Int64.reduceToInt, zi_ite]); omega, rfl⟩
                  | exact Or.inr (Or.inl ⟨by (try simp only [fa_lt, fa_le, fa_eq, fa_lt64, fa_le64, fa_eq64, Int32.reduceToInt, Int64.reduceToInt, zi_ite]); omega, rfl⟩)
                  | exact Or.inr (Or.inr (⟨by (try simp only [fa_lt, fa_le, fa_eq, fa_lt64, fa_le64, fa_eq64, Int32.reduceToInt, Int64.reduceToInt, zi_ite]); omega, rfl⟩))
                refine W.widen (k := 0) (n := 0) (by decide +kernel) (by decide +kernel) ?_
                exact W.iret (v := 0) hx hb hr (fun t ht hW => ⟨⟨0, (), rfl, hpost, trivial⟩, hS.F ht⟩) hS.2.2 dX11_days_75
              · refine lv_aload_n hx hb dX11_days_49 rfl (lv_at hl 0 rfl) ?_
                refine va_get (D := (dC, dI)) (ci := 11) (v := .ref (ad 7)) (C := RX11) (T := TX11) (N := 13) hx hb hts (by decide +kernel) hown hK hP 0 rfl rfl 7 (by decide) (hts (.fieldLink RX11 60 "RedTent" "breaker" "LRedTent$Breaker;") (by decide +kernel)) (fun _ h9 => h9) rfl dX11_days_50 ?_
                refine va_get (D := (dC, dI)) (ci := 1) (v := .int 0) (C := RX1) (T := TX1) (N := 4) hx hb hts (by decide +kernel) hown hK hP 1 rfl rfl 2 (by decide) (hts (.fieldLink RX11 339 "RedTent$Breaker" "bestCells" "I") (by decide +kernel)) (fun _ h9 => h9) rfl dX11_days_53 ?_
                refine lv_goto (tgt := 75) hx hb dX11_days_56 (by decide) ?_
                have hpost : ((¬ (1 ≤ p0 ∧ p0 ≤ 5 ∧ 0 ≤ p1 ∧ p1 ≤ 99)) ∧ (0 : Int32) = (-2)) ∨ (((1 ≤ p0 ∧ p0 ≤ 5 ∧ 0 ≤ p1 ∧ p1 ≤ 99) ∧ ¬ (-1 ≤ p2 ∧ p2 < p0)) ∧ (0 : Int32) = (-1)) ∨ (((1 ≤ p0 ∧ p0 ≤ 5 ∧ 0 ≤ p1 ∧ p1 ≤ 99) ∧ -1 ≤ p2 ∧ p2 < p0) ∧ (0 : Int32) = 0) := by
                  try simp only [fa_lt, fa_le, fa_eq, fa_lt64, fa_le64, fa_eq64, Int32.reduceToInt, Int64.reduceToInt, zi_ite] at c_1
                  try simp only [fa_lt, fa_le, fa_eq, fa_lt64, fa_le64, fa_eq64, Int32.reduceToInt, Int64.reduceToInt, zi_ite] at c_2
                  try simp only [fa_lt, fa_le, fa_eq, fa_lt64, fa_le64, fa_eq64, Int32.reduceToInt, Int64.reduceToInt, zi_ite] at c_3
                  try simp only [fa_lt, fa_le, fa_eq, fa_lt64, fa_le64, fa_eq64, Int32.reduceToInt, Int64.reduceToInt, zi_ite] at c_4
                  try simp only [fa_lt, fa_le, fa_eq, fa_lt64, fa_le64, fa_eq64, Int32.reduceToInt, Int64.reduceToInt, zi_ite] at c_5
                  try simp only [fa_lt, fa_le, fa_eq, fa_lt64, fa_le64, fa_eq64, Int32.reduceToInt, Int64.reduceToInt, zi_ite] at c_6
                  try simp only [fa_lt, fa_le, fa_eq, fa_lt64, fa_le64, fa_eq64, Int32.reduceToInt, Int64.reduceToInt, zi_ite] at c_10
                  first
                  | exact Or.inl ⟨by (try simp only [fa_lt, fa_le, fa_eq, fa_lt64, fa_le64, fa_eq64, Int32.reduceToInt, Int64.reduceToInt, zi_ite]); omega, rfl⟩
                  | exact Or.inr (Or.inl ⟨by (try simp only [fa_lt, fa_le, fa_eq, fa_lt64, fa_le64, fa_eq64, Int32.reduceToInt, Int64.reduceToInt, zi_ite]); omega, rfl⟩)
                  | exact Or.inr (Or.inr (⟨by (try simp only [fa_lt, fa_le, fa_eq, fa_lt64, fa_le64, fa_eq64, Int32.reduceToInt, Int64.reduceToInt, zi_ite]); omega, rfl⟩))
                refine W.widen (k := 0) (n := 0) (by decide +kernel) (by decide +kernel) ?_
                exact W.iret (v := 0) hx hb hr (fun t ht hW => ⟨⟨0, (), rfl, hpost, trivial⟩, hS.F ht⟩) hS.2.2 dX11_days_75
            · refine lv_iconst (v := (-1)) hx hb dX11_days_33 (by decide) ?_
              have hpost : ((¬ (1 ≤ p0 ∧ p0 ≤ 5 ∧ 0 ≤ p1 ∧ p1 ≤ 99)) ∧ ((-1) : Int32) = (-2)) ∨ (((1 ≤ p0 ∧ p0 ≤ 5 ∧ 0 ≤ p1 ∧ p1 ≤ 99) ∧ ¬ (-1 ≤ p2 ∧ p2 < p0)) ∧ ((-1) : Int32) = (-1)) ∨ (((1 ≤ p0 ∧ p0 ≤ 5 ∧ 0 ≤ p1 ∧ p1 ≤ 99) ∧ -1 ≤ p2 ∧ p2 < p0) ∧ ((-1) : Int32) = 0) := by
                try simp only [fa_lt, fa_le, fa_eq, fa_lt64, fa_le64, fa_eq64, Int32.reduceToInt, Int64.reduceToInt, zi_ite] at c_1
                try simp only [fa_lt, fa_le, fa_eq, fa_lt64, fa_le64, fa_eq64, Int32.reduceToInt, Int64.reduceToInt, zi_ite] at c_2
                try simp only [fa_lt, fa_le, fa_eq, fa_lt64, fa_le64, fa_eq64, Int32.reduceToInt, Int64.reduceToInt, zi_ite] at c_3
                try simp only [fa_lt, fa_le, fa_eq, fa_lt64, fa_le64, fa_eq64, Int32.reduceToInt, Int64.reduceToInt, zi_ite] at c_4
                try simp only [fa_lt, fa_le, fa_eq, fa_lt64, fa_le64, fa_eq64, Int32.reduceToInt, Int64.reduceToInt, zi_ite] at c_5
                try simp only [fa_lt, fa_le, fa_eq, fa_lt64, fa_le64, fa_eq64, Int32.reduceToInt, Int64.reduceToInt, zi_ite] at c_6
                first
                | exact Or.inl ⟨by (try simp only [fa_lt, fa_le, fa_eq, fa_lt64, fa_le64, fa_eq64, Int32.reduceToInt, Int64.reduceToInt, zi_ite]); omega, rfl⟩
                | exact Or.inr (Or.inl ⟨by (try simp only [fa_lt, fa_le, fa_eq, fa_lt64, fa_le64, fa_eq64, Int32.reduceToInt, Int64.reduceToInt, zi_ite]); omega, rfl⟩)
                | exact Or.inr (Or.inr (⟨by (try simp only [fa_lt, fa_le, fa_eq, fa_lt64, fa_le64, fa_eq64, Int32.reduceToInt, Int64.reduceToInt, zi_ite]); omega, rfl⟩))
              refine W.widen (k := 0) (n := 0) (by decide +kernel) (by decide +kernel) ?_
              exact W.iret (v := (-1)) hx hb hr (fun t ht hW => ⟨⟨(-1), (), rfl, hpost, trivial⟩, hS.F ht⟩) hS.2.2 dX11_days_34
        · refine lv_bipush (v := (-2)) hx hb dX11_days_20 (by decide) ?_
          have hpost : ((¬ (1 ≤ p0 ∧ p0 ≤ 5 ∧ 0 ≤ p1 ∧ p1 ≤ 99)) ∧ ((-2) : Int32) = (-2)) ∨ (((1 ≤ p0 ∧ p0 ≤ 5 ∧ 0 ≤ p1 ∧ p1 ≤ 99) ∧ ¬ (-1 ≤ p2 ∧ p2 < p0)) ∧ ((-2) : Int32) = (-1)) ∨ (((1 ≤ p0 ∧ p0 ≤ 5 ∧ 0 ≤ p1 ∧ p1 ≤ 99) ∧ -1 ≤ p2 ∧ p2 < p0) ∧ ((-2) : Int32) = 0) := by
            try simp only [fa_lt, fa_le, fa_eq, fa_lt64, fa_le64, fa_eq64, Int32.reduceToInt, Int64.reduceToInt, zi_ite] at c_1
            try simp only [fa_lt, fa_le, fa_eq, fa_lt64, fa_le64, fa_eq64, Int32.reduceToInt, Int64.reduceToInt, zi_ite] at c_2
            try simp only [fa_lt, fa_le, fa_eq, fa_lt64, fa_le64, fa_eq64, Int32.reduceToInt, Int64.reduceToInt, zi_ite] at c_3
            try simp only [fa_lt, fa_le, fa_eq, fa_lt64, fa_le64, fa_eq64, Int32.reduceToInt, Int64.reduceToInt, zi_ite] at c_4
            first
            | exact Or.inl ⟨by (try simp only [fa_lt, fa_le, fa_eq, fa_lt64, fa_le64, fa_eq64, Int32.reduceToInt, Int64.reduceToInt, zi_ite]); omega, rfl⟩
            | exact Or.inr (Or.inl ⟨by (try simp only [fa_lt, fa_le, fa_eq, fa_lt64, fa_le64, fa_eq64, Int32.reduceToInt, Int64.reduceToInt, zi_ite]); omega, rfl⟩)
            | exact Or.inr (Or.inr (⟨by (try simp only [fa_lt, fa_le, fa_eq, fa_lt64, fa_le64, fa_eq64, Int32.reduceToInt, Int64.reduceToInt, zi_ite]); omega, rfl⟩))
          refine W.widen (k := 0) (n := 0) (by decide +kernel) (by decide +kernel) ?_
          exact W.iret (v := (-2)) hx hb hr (fun t ht hW => ⟨⟨(-2), (), rfl, hpost, trivial⟩, hS.F ht⟩) hS.2.2 dX11_days_22
