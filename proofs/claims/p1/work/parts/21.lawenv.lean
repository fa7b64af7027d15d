set_option maxRecDepth 100000 in
theorem law_E {p : Program} {s : State} {m : MethodId} {meth : Method} {c : Code} {b L : Nat} {xs : Nat → Int32} (C0 : lw_At p s m meth c b L xs) : rt_E s := by
  obtain ⟨hx, hb, hr, hml, hown, hts, hX, hbl, hlocks, hgv⟩ := id C0
  exact ⟨va_Nw.of rfl (hts (.methodLinkNest RX11 24 yX4_init RX11) (by decide +kernel)),
    va_Nw.of rfl (hts (.methodLinkNest RX11 31 yX6_init RX11) (by decide +kernel)),
    va_Nw.of rfl (hts (.methodLinkNest RX11 38 yX2_init RX11) (by decide +kernel)),
    va_Nw.of rfl (hts (.methodLinkNest RX11 52 yX8_init RX11) (by decide +kernel)),
    va_Nw.of rfl (hts (.methodLinkNest RX11 59 yX1_init RX11) (by decide +kernel)),
    va_Nw.of rfl (hts (.methodLinkNest RX11 70 yX7_init RX11) (by decide +kernel)),
    va_Nw.of rfl (hts (.methodLinkNest RX3 23 yX5_init RX11) (by decide +kernel)),
    va_Nw.of rfl (hts (.methodLinkNest RX3 34 yX9_init RX11) (by decide +kernel)),
    va_Nw.of rfl (hts (.methodLinkNest RX5 26 yX9_init RX11) (by decide +kernel)),
    va_AO.of (hts (.arrayOver (.object RX0)) (by decide +kernel)),
    va_AO.of (hts (.arrayOver (.object RX7)) (by decide +kernel)),
    va_AO.of (hts (.arrayOver (.object RX9)) (by decide +kernel)),
    va_AOA.of (hts (.arrayOver (.array .int)) (by decide +kernel))⟩
set_option maxRecDepth 100000 in
theorem law_T {p : Program} {s : State} {m : MethodId} {meth : Method} {c : Code} {b L : Nat} {xs : Nat → Int32} (C0 : lw_At p s m meth c b L xs) : rt_T (fun q : Nat => s.heap.size ≤ q) s s.heap := by
  obtain ⟨hx, hb, hr, hml, hown, hts, hX, hbl, hlocks, hgv⟩ := id C0
  have hs := flat_of_before _ hgv
  have hO : ∀ a : Nat, a < s.heap.size → ¬ (fun q : Nat => s.heap.size ≤ q) a := fun a h h2 => Nat.not_le.mpr h h2
  obtain ⟨t0, ht0, hT0⟩ := va_Tof (tm := (.static "RedTent$Text" "FIRST_TAKE" "[I")) (N := 5) (f := rt_s1) (A := (fun q : Nat => s.heap.size ≤ q)) (ty := .int) (by decide) (hs (.arrayOf (.static "RedTent$Text" "FIRST_TAKE" "[I") .int) (by decide +kernel)) (va_eqt (hs (.eq (.length (.static "RedTent$Text" "FIRST_TAKE" "[I")) (.int 5)) (by decide +kernel))) (fun j hj => by
    rcases (show j = 0 ∨ j = 1 ∨ j = 2 ∨ j = 3 ∨ j = 4 by omega) with rfl | rfl | rfl | rfl | rfl
    · exact va_eqt (hs (.eq (.elem (.static "RedTent$Text" "FIRST_TAKE" "[I") (.int 0)) (.int (-2))) (by decide +kernel))
    · exact va_eqt (hs (.eq (.elem (.static "RedTent$Text" "FIRST_TAKE" "[I") (.int 1)) (.int (2))) (by decide +kernel))
    · exact va_eqt (hs (.eq (.elem (.static "RedTent$Text" "FIRST_TAKE" "[I") (.int 2)) (.int (-18))) (by decide +kernel))
    · exact va_eqt (hs (.eq (.elem (.static "RedTent$Text" "FIRST_TAKE" "[I") (.int 3)) (.int (-1))) (by decide +kernel))
    · exact va_eqt (hs (.eq (.elem (.static "RedTent$Text" "FIRST_TAKE" "[I") (.int 4)) (.int (-17))) (by decide +kernel))) hO
  obtain ⟨t1, ht1, hT1⟩ := va_Tof (tm := (.static "RedTent$Text" "FIRST_GO" "[I")) (N := 5) (f := rt_s2) (A := (fun q : Nat => s.heap.size ≤ q)) (ty := .int) (by decide) (hs (.arrayOf (.static "RedTent$Text" "FIRST_GO" "[I") .int) (by decide +kernel)) (va_eqt (hs (.eq (.length (.static "RedTent$Text" "FIRST_GO" "[I")) (.int 5)) (by decide +kernel))) (fun j hj => by
    rcases (show j = 0 ∨ j = 1 ∨ j = 2 ∨ j = 3 ∨ j = 4 by omega) with rfl | rfl | rfl | rfl | rfl
    · exact va_eqt (hs (.eq (.elem (.static "RedTent$Text" "FIRST_GO" "[I") (.int 0)) (.int (-6))) (by decide +kernel))
    · exact va_eqt (hs (.eq (.elem (.static "RedTent$Text" "FIRST_GO" "[I") (.int 1)) (.int (6))) (by decide +kernel))
    · exact va_eqt (hs (.eq (.elem (.static "RedTent$Text" "FIRST_GO" "[I") (.int 2)) (.int (-18))) (by decide +kernel))
    · exact va_eqt (hs (.eq (.elem (.static "RedTent$Text" "FIRST_GO" "[I") (.int 3)) (.int (-5))) (by decide +kernel))
    · exact va_eqt (hs (.eq (.elem (.static "RedTent$Text" "FIRST_GO" "[I") (.int 4)) (.int (-14))) (by decide +kernel))) hO
  obtain ⟨t2, ht2, hT2⟩ := va_Tof (tm := (.static "RedTent$Breaker" "POWERS_OF_3" "[I")) (N := 6) (f := rt_s3) (A := (fun q : Nat => s.heap.size ≤ q)) (ty := .int) (by decide) (hs (.arrayOf (.static "RedTent$Breaker" "POWERS_OF_3" "[I") .int) (by decide +kernel)) (va_eqt (hs (.eq (.length (.static "RedTent$Breaker" "POWERS_OF_3" "[I")) (.int 6)) (by decide +kernel))) (fun j hj => by
    rcases (show j = 0 ∨ j = 1 ∨ j = 2 ∨ j = 3 ∨ j = 4 ∨ j = 5 by omega) with rfl | rfl | rfl | rfl | rfl | rfl
    · exact va_eqt (hs (.eq (.elem (.static "RedTent$Breaker" "POWERS_OF_3" "[I") (.int 0)) (.int (1))) (by decide +kernel))
    · exact va_eqt (hs (.eq (.elem (.static "RedTent$Breaker" "POWERS_OF_3" "[I") (.int 1)) (.int (3))) (by decide +kernel))
    · exact va_eqt (hs (.eq (.elem (.static "RedTent$Breaker" "POWERS_OF_3" "[I") (.int 2)) (.int (9))) (by decide +kernel))
    · exact va_eqt (hs (.eq (.elem (.static "RedTent$Breaker" "POWERS_OF_3" "[I") (.int 3)) (.int (27))) (by decide +kernel))
    · exact va_eqt (hs (.eq (.elem (.static "RedTent$Breaker" "POWERS_OF_3" "[I") (.int 4)) (.int (81))) (by decide +kernel))
    · exact va_eqt (hs (.eq (.elem (.static "RedTent$Breaker" "POWERS_OF_3" "[I") (.int 5)) (.int (243))) (by decide +kernel))) hO
  exact ⟨⟨t0, va_Zref (hts (.laysStatic "RedTent$Text" "FIRST_TAKE" "[I") (by decide +kernel)) (hts (.initialized "RedTent$Text") (by decide +kernel)) ht0 hO, hT0⟩, ⟨t1, va_Zref (hts (.laysStatic "RedTent$Text" "FIRST_GO" "[I") (by decide +kernel)) (hts (.initialized "RedTent$Text") (by decide +kernel)) ht1 hO, hT1⟩, ⟨t2, va_Zref (hts (.laysStatic "RedTent$Breaker" "POWERS_OF_3" "[I") (by decide +kernel)) (hts (.initialized "RedTent$Breaker") (by decide +kernel)) ht2 hO, hT2⟩⟩
set_option maxRecDepth 100000 in
theorem law_S1 {p : Program} {s : State} {m : MethodId} {meth : Method} {c : Code} {b L : Nat} {xs : Nat → Int32} (C0 : lw_At p s m meth c b L xs) : ∃ (q v : Nat) (f : Nat → Int32), rt_Str q v 46 f (fun q : Nat => s.heap.size ≤ q) s s.heap ∧ vk_R RX12 170 "take hurt * 2 - strength ; go far * 6 < fuel ;" q s := by
  obtain ⟨hx, hb, hr, hml, hown, hts, hX, hbl, hlocks, hgv⟩ := id C0
  have hs := flat_of_before _ hgv
  have hO : ∀ a : Nat, a < s.heap.size → ¬ (fun q : Nat => s.heap.size ≤ q) a := fun a h h2 => Nat.not_le.mpr h h2
  have hall : ∀ j : Nat, j < 46 → (Cond.eq (.elem (.field (.string RX12 170) "java/lang/String" "value" "[B") (.int (Int32.ofNat j))) (.int (([116, 97, 107, 101, 32, 104, 117, 114, 116, 32, 42, 32, 50, 32, 45, 32, 115, 116, 114, 101, 110, 103, 116, 104, 32, 59, 32, 103, 111, 32, 102, 97, 114, 32, 42, 32, 54, 32, 60, 32, 102, 117, 101, 108, 32, 59] : List Int32).getD j 0))).before #[Value.ref b] s = true := by
    intro j hj
    have h1 : (List.range 46).all (fun j => decide ((Cond.eq (.elem (.field (.string RX12 170) "java/lang/String" "value" "[B") (.int (Int32.ofNat j))) (.int (([116, 97, 107, 101, 32, 104, 117, 114, 116, 32, 42, 32, 50, 32, 45, 32, 115, 116, 114, 101, 110, 103, 116, 104, 32, 59, 32, 103, 111, 32, 102, 97, 114, 32, 42, 32, 54, 32, 60, 32, 102, 117, 101, 108, 32, 59] : List Int32).getD j 0))) ∈ flatC (Jvm.Cond.and given_1 narrow_1))) = true := by decide +kernel
    exact hs _ (of_decide_eq_true (List.all_eq_true.mp h1 j (List.mem_range.mpr hj)))
  have h01 : ∀ i : Nat, i < 1 → i = 0 := fun i h => by omega
  obtain ⟨adK, adV, hV, hev⟩ := vk_Sof (args := #[Value.ref b]) (s := s) (N := 1) (tm := fun _ => (.string RX12 170)) (len := [46]) (byt := [[116, 97, 107, 101, 32, 104, 117, 114, 116, 32, 42, 32, 50, 32, 45, 32, 115, 116, 114, 101, 110, 103, 116, 104, 32, 59, 32, 103, 111, 32, 102, 97, 114, 32, 42, 32, 54, 32, 60, 32, 102, 117, 101, 108, 32, 59]]) (A := (fun q : Nat => s.heap.size ≤ q)) (fun i hi => by rw [h01 i hi]; decide) (fun i hi => hs (.exactly (.string RX12 170) "java/lang/String") (by decide +kernel)) (fun i hi => hs (.eq (.field (.string RX12 170) "java/lang/String" "coder" "B") (.int 0)) (by decide +kernel)) (fun i hi => hs (.arrayOf (.field (.string RX12 170) "java/lang/String" "value" "[B") .byte) (by decide +kernel)) (fun i hi => by rw [h01 i hi]; exact hs (.eq (.length (.field (.string RX12 170) "java/lang/String" "value" "[B")) (.int 46)) (by decide +kernel)) (fun i hi j hj => by rw [h01 i hi] at hj ⊢; exact hall j hj) (fun i j hi hj hne => absurd ((h01 i hi).trans (h01 j hj).symm) hne) hO
  obtain ⟨h1, h2, h3, h4⟩ := hV.1 0 (by decide)
  refine ⟨adK 0, adV 0, fun j => ([116, 97, 107, 101, 32, 104, 117, 114, 116, 32, 42, 32, 50, 32, 45, 32, 115, 116, 114, 101, 110, 103, 116, 104, 32, 59, 32, 103, 111, 32, 102, 97, 114, 32, 42, 32, 54, 32, 60, 32, 102, 117, 101, 108, 32, 59] : List Int32).getD j 0, ⟨h1, h2, h3, h4, ?_, ?_⟩, ?_⟩
  · exact va_Zof (hts (.laysStatic "java/lang/String" "COMPACT_STRINGS" "Z") (by decide +kernel)) (hts (.initialized "java/lang/String") (by decide +kernel)) (va_eqi (hs (.eq (.static "java/lang/String" "COMPACT_STRINGS" "Z") (.int 1)) (by decide +kernel))) hO
  · exact va_Zqof (hts (.laysStatic "jdk/internal/util/Preconditions" "SIOOBE_FORMATTER" "Ljava/util/function/BiFunction;") (by decide +kernel)) (hts (.initialized "jdk/internal/util/Preconditions") (by decide +kernel)) (hs (.isRef (.static "jdk/internal/util/Preconditions" "SIOOBE_FORMATTER" "Ljava/util/function/BiFunction;")) (by decide +kernel)) hO
  · exact vk_R.of (A := #[Value.ref b]) (hts (.stringRef RX12 170 "take hurt * 2 - strength ; go far * 6 < fuel ;") (by decide +kernel)) (hev 0 (by decide))
set_option maxRecDepth 100000 in
theorem law_S2 {p : Program} {s : State} {m : MethodId} {meth : Method} {c : Code} {b L : Nat} {xs : Nat → Int32} (C0 : lw_At p s m meth c b L xs) : ∃ (q v : Nat) (f : Nat → Int32), rt_Str q v 4 f (fun q : Nat => s.heap.size ≤ q) s s.heap ∧ vk_R RX12 417 "take" q s := by
  obtain ⟨hx, hb, hr, hml, hown, hts, hX, hbl, hlocks, hgv⟩ := id C0
  have hs := flat_of_before _ hgv
  have hO : ∀ a : Nat, a < s.heap.size → ¬ (fun q : Nat => s.heap.size ≤ q) a := fun a h h2 => Nat.not_le.mpr h h2
  have hall : ∀ j : Nat, j < 4 → (Cond.eq (.elem (.field (.string RX12 417) "java/lang/String" "value" "[B") (.int (Int32.ofNat j))) (.int (([116, 97, 107, 101] : List Int32).getD j 0))).before #[Value.ref b] s = true := by
    intro j hj
    have h1 : (List.range 4).all (fun j => decide ((Cond.eq (.elem (.field (.string RX12 417) "java/lang/String" "value" "[B") (.int (Int32.ofNat j))) (.int (([116, 97, 107, 101] : List Int32).getD j 0))) ∈ flatC (Jvm.Cond.and given_1 narrow_1))) = true := by decide +kernel
    exact hs _ (of_decide_eq_true (List.all_eq_true.mp h1 j (List.mem_range.mpr hj)))
  have h01 : ∀ i : Nat, i < 1 → i = 0 := fun i h => by omega
  obtain ⟨adK, adV, hV, hev⟩ := vk_Sof (args := #[Value.ref b]) (s := s) (N := 1) (tm := fun _ => (.string RX12 417)) (len := [4]) (byt := [[116, 97, 107, 101]]) (A := (fun q : Nat => s.heap.size ≤ q)) (fun i hi => by rw [h01 i hi]; decide) (fun i hi => hs (.exactly (.string RX12 417) "java/lang/String") (by decide +kernel)) (fun i hi => hs (.eq (.field (.string RX12 417) "java/lang/String" "coder" "B") (.int 0)) (by decide +kernel)) (fun i hi => hs (.arrayOf (.field (.string RX12 417) "java/lang/String" "value" "[B") .byte) (by decide +kernel)) (fun i hi => by rw [h01 i hi]; exact hs (.eq (.length (.field (.string RX12 417) "java/lang/String" "value" "[B")) (.int 4)) (by decide +kernel)) (fun i hi j hj => by rw [h01 i hi] at hj ⊢; exact hall j hj) (fun i j hi hj hne => absurd ((h01 i hi).trans (h01 j hj).symm) hne) hO
  obtain ⟨h1, h2, h3, h4⟩ := hV.1 0 (by decide)
  refine ⟨adK 0, adV 0, fun j => ([116, 97, 107, 101] : List Int32).getD j 0, ⟨h1, h2, h3, h4, ?_, ?_⟩, ?_⟩
  · exact va_Zof (hts (.laysStatic "java/lang/String" "COMPACT_STRINGS" "Z") (by decide +kernel)) (hts (.initialized "java/lang/String") (by decide +kernel)) (va_eqi (hs (.eq (.static "java/lang/String" "COMPACT_STRINGS" "Z") (.int 1)) (by decide +kernel))) hO
  · exact va_Zqof (hts (.laysStatic "jdk/internal/util/Preconditions" "SIOOBE_FORMATTER" "Ljava/util/function/BiFunction;") (by decide +kernel)) (hts (.initialized "jdk/internal/util/Preconditions") (by decide +kernel)) (hs (.isRef (.static "jdk/internal/util/Preconditions" "SIOOBE_FORMATTER" "Ljava/util/function/BiFunction;")) (by decide +kernel)) hO
  · exact vk_R.of (A := #[Value.ref b]) (hts (.stringRef RX12 417 "take") (by decide +kernel)) (hev 0 (by decide))
set_option maxRecDepth 100000 in
theorem law_S3 {p : Program} {s : State} {m : MethodId} {meth : Method} {c : Code} {b L : Nat} {xs : Nat → Int32} (C0 : lw_At p s m meth c b L xs) : ∃ (q v : Nat) (f : Nat → Int32), rt_Str q v 1 f (fun q : Nat => s.heap.size ≤ q) s s.heap ∧ vk_R RX12 421 ";" q s := by
  obtain ⟨hx, hb, hr, hml, hown, hts, hX, hbl, hlocks, hgv⟩ := id C0
  have hs := flat_of_before _ hgv
  have hO : ∀ a : Nat, a < s.heap.size → ¬ (fun q : Nat => s.heap.size ≤ q) a := fun a h h2 => Nat.not_le.mpr h h2
  have hall : ∀ j : Nat, j < 1 → (Cond.eq (.elem (.field (.string RX12 421) "java/lang/String" "value" "[B") (.int (Int32.ofNat j))) (.int (([59] : List Int32).getD j 0))).before #[Value.ref b] s = true := by
    intro j hj
    have h1 : (List.range 1).all (fun j => decide ((Cond.eq (.elem (.field (.string RX12 421) "java/lang/String" "value" "[B") (.int (Int32.ofNat j))) (.int (([59] : List Int32).getD j 0))) ∈ flatC (Jvm.Cond.and given_1 narrow_1))) = true := by decide +kernel
    exact hs _ (of_decide_eq_true (List.all_eq_true.mp h1 j (List.mem_range.mpr hj)))
  have h01 : ∀ i : Nat, i < 1 → i = 0 := fun i h => by omega
  obtain ⟨adK, adV, hV, hev⟩ := vk_Sof (args := #[Value.ref b]) (s := s) (N := 1) (tm := fun _ => (.string RX12 421)) (len := [1]) (byt := [[59]]) (A := (fun q : Nat => s.heap.size ≤ q)) (fun i hi => by rw [h01 i hi]; decide) (fun i hi => hs (.exactly (.string RX12 421) "java/lang/String") (by decide +kernel)) (fun i hi => hs (.eq (.field (.string RX12 421) "java/lang/String" "coder" "B") (.int 0)) (by decide +kernel)) (fun i hi => hs (.arrayOf (.field (.string RX12 421) "java/lang/String" "value" "[B") .byte) (by decide +kernel)) (fun i hi => by rw [h01 i hi]; exact hs (.eq (.length (.field (.string RX12 421) "java/lang/String" "value" "[B")) (.int 1)) (by decide +kernel)) (fun i hi j hj => by rw [h01 i hi] at hj ⊢; exact hall j hj) (fun i j hi hj hne => absurd ((h01 i hi).trans (h01 j hj).symm) hne) hO
  obtain ⟨h1, h2, h3, h4⟩ := hV.1 0 (by decide)
  refine ⟨adK 0, adV 0, fun j => ([59] : List Int32).getD j 0, ⟨h1, h2, h3, h4, ?_, ?_⟩, ?_⟩
  · exact va_Zof (hts (.laysStatic "java/lang/String" "COMPACT_STRINGS" "Z") (by decide +kernel)) (hts (.initialized "java/lang/String") (by decide +kernel)) (va_eqi (hs (.eq (.static "java/lang/String" "COMPACT_STRINGS" "Z") (.int 1)) (by decide +kernel))) hO
  · exact va_Zqof (hts (.laysStatic "jdk/internal/util/Preconditions" "SIOOBE_FORMATTER" "Ljava/util/function/BiFunction;") (by decide +kernel)) (hts (.initialized "jdk/internal/util/Preconditions") (by decide +kernel)) (hs (.isRef (.static "jdk/internal/util/Preconditions" "SIOOBE_FORMATTER" "Ljava/util/function/BiFunction;")) (by decide +kernel)) hO
  · exact vk_R.of (A := #[Value.ref b]) (hts (.stringRef RX12 421 ";") (by decide +kernel)) (hev 0 (by decide))
set_option maxRecDepth 100000 in
theorem law_S4 {p : Program} {s : State} {m : MethodId} {meth : Method} {c : Code} {b L : Nat} {xs : Nat → Int32} (C0 : lw_At p s m meth c b L xs) : ∃ (q v : Nat) (f : Nat → Int32), rt_Str q v 2 f (fun q : Nat => s.heap.size ≤ q) s s.heap ∧ vk_R RX12 423 "go" q s := by
  obtain ⟨hx, hb, hr, hml, hown, hts, hX, hbl, hlocks, hgv⟩ := id C0
  have hs := flat_of_before _ hgv
  have hO : ∀ a : Nat, a < s.heap.size → ¬ (fun q : Nat => s.heap.size ≤ q) a := fun a h h2 => Nat.not_le.mpr h h2
  have hall : ∀ j : Nat, j < 2 → (Cond.eq (.elem (.field (.string RX12 423) "java/lang/String" "value" "[B") (.int (Int32.ofNat j))) (.int (([103, 111] : List Int32).getD j 0))).before #[Value.ref b] s = true := by
    intro j hj
    have h1 : (List.range 2).all (fun j => decide ((Cond.eq (.elem (.field (.string RX12 423) "java/lang/String" "value" "[B") (.int (Int32.ofNat j))) (.int (([103, 111] : List Int32).getD j 0))) ∈ flatC (Jvm.Cond.and given_1 narrow_1))) = true := by decide +kernel
    exact hs _ (of_decide_eq_true (List.all_eq_true.mp h1 j (List.mem_range.mpr hj)))
  have h01 : ∀ i : Nat, i < 1 → i = 0 := fun i h => by omega
  obtain ⟨adK, adV, hV, hev⟩ := vk_Sof (args := #[Value.ref b]) (s := s) (N := 1) (tm := fun _ => (.string RX12 423)) (len := [2]) (byt := [[103, 111]]) (A := (fun q : Nat => s.heap.size ≤ q)) (fun i hi => by rw [h01 i hi]; decide) (fun i hi => hs (.exactly (.string RX12 423) "java/lang/String") (by decide +kernel)) (fun i hi => hs (.eq (.field (.string RX12 423) "java/lang/String" "coder" "B") (.int 0)) (by decide +kernel)) (fun i hi => hs (.arrayOf (.field (.string RX12 423) "java/lang/String" "value" "[B") .byte) (by decide +kernel)) (fun i hi => by rw [h01 i hi]; exact hs (.eq (.length (.field (.string RX12 423) "java/lang/String" "value" "[B")) (.int 2)) (by decide +kernel)) (fun i hi j hj => by rw [h01 i hi] at hj ⊢; exact hall j hj) (fun i j hi hj hne => absurd ((h01 i hi).trans (h01 j hj).symm) hne) hO
  obtain ⟨h1, h2, h3, h4⟩ := hV.1 0 (by decide)
  refine ⟨adK 0, adV 0, fun j => ([103, 111] : List Int32).getD j 0, ⟨h1, h2, h3, h4, ?_, ?_⟩, ?_⟩
  · exact va_Zof (hts (.laysStatic "java/lang/String" "COMPACT_STRINGS" "Z") (by decide +kernel)) (hts (.initialized "java/lang/String") (by decide +kernel)) (va_eqi (hs (.eq (.static "java/lang/String" "COMPACT_STRINGS" "Z") (.int 1)) (by decide +kernel))) hO
  · exact va_Zqof (hts (.laysStatic "jdk/internal/util/Preconditions" "SIOOBE_FORMATTER" "Ljava/util/function/BiFunction;") (by decide +kernel)) (hts (.initialized "jdk/internal/util/Preconditions") (by decide +kernel)) (hs (.isRef (.static "jdk/internal/util/Preconditions" "SIOOBE_FORMATTER" "Ljava/util/function/BiFunction;")) (by decide +kernel)) hO
  · exact vk_R.of (A := #[Value.ref b]) (hts (.stringRef RX12 423 "go") (by decide +kernel)) (hev 0 (by decide))
