set_option maxRecDepth 100000 in
theorem law_E {p : Program} {s : State} {m : MethodId} {meth : Method} {c : Code} {b L : Nat} {xs : Nat → Int32} (C0 : lw_At p s m meth c b L xs) : rt_E s := by
  obtain ⟨hx, hb, hr, hml, hown, hts, hX, hbl, hlocks, hgv⟩ := id C0
  exact ⟨va_Nw.of rfl (hts (.methodLinkNest RX11 24 yX4_init RX11) (rt_pc_in 1 _ (List.mem_of_getElem? (i := 55) (by decide +kernel)))),
    va_Nw.of rfl (hts (.methodLinkNest RX11 31 yX6_init RX11) (rt_pc_in 1 _ (List.mem_of_getElem? (i := 107) (by decide +kernel)))),
    va_Nw.of rfl (hts (.methodLinkNest RX11 38 yX2_init RX11) (rt_pc_in 1 _ (List.mem_of_getElem? (i := 137) (by decide +kernel)))),
    va_Nw.of rfl (hts (.methodLinkNest RX11 52 yX8_init RX11) (rt_pc_in 2 _ (List.mem_of_getElem? (i := 31) (by decide +kernel)))),
    va_Nw.of rfl (hts (.methodLinkNest RX11 59 yX1_init RX11) (rt_pc_in 2 _ (List.mem_of_getElem? (i := 54) (by decide +kernel)))),
    va_Nw.of rfl (hts (.methodLinkNest RX11 70 yX7_init RX11) (rt_pc_in 2 _ (List.mem_of_getElem? (i := 79) (by decide +kernel)))),
    va_Nw.of rfl (hts (.methodLinkNest RX3 23 yX5_init RX11) (rt_pc_in 1 _ (List.mem_of_getElem? (i := 176) (by decide +kernel)))),
    va_Nw.of rfl (hts (.methodLinkNest RX3 34 yX9_init RX11) (rt_pc_in 1 _ (List.mem_of_getElem? (i := 224) (by decide +kernel)))),
    va_Nw.of rfl (hts (.methodLinkNest RX5 26 yX9_init RX11) (rt_pc_in 1 _ (List.mem_of_getElem? (i := 182) (by decide +kernel)))),
    va_Nw.of rfl (hts (.methodLinkNest RX10 39 yX11_byColumns RX11) (rt_pc_in 3 _ (List.mem_of_getElem? (i := 59) (by decide +kernel)))),
    va_Nw.of rfl (hts (.methodLinkNest RX10 43 yX11_byRows RX11) (rt_pc_in 3 _ (List.mem_of_getElem? (i := 63) (by decide +kernel)))),
    va_Nw.of rfl (hts (.methodLinkNest RX4 57 yX11_apart RX11) (rt_pc_in 3 _ (List.mem_of_getElem? (i := 118) (by decide +kernel)))),
    va_Nw.of rfl (hts (.methodLinkNest RX4 61 yX11_has RX11) (rt_pc_in 3 _ (List.mem_of_getElem? (i := 125) (by decide +kernel)))),
    va_Nw.of rfl (hts (.methodLinkNest RX6 33 yX11_has RX11) (rt_pc_in 3 _ (List.mem_of_getElem? (i := 192) (by decide +kernel)))),
    va_Nw.of rfl (hts (.fieldLinkNest RX0 53 "RedTent" "EATS_A_MAN" "[I" RX11) (rt_pc_in 2 _ (List.mem_of_getElem? (i := 151) (by decide +kernel)))),
    va_Nw.of rfl (hts (.fieldLinkNest RX0 56 "RedTent" "EATS_BESIDE" "[I" RX11) (rt_pc_in 2 _ (List.mem_of_getElem? (i := 153) (by decide +kernel)))),
    va_Nw.of rfl (hts (.fieldLinkNest RX0 59 "RedTent" "BURNS" "[I" RX11) (rt_pc_in 3 _ (List.mem_of_getElem? (i := 28) (by decide +kernel)))),
    va_Nw.of rfl (hts (.fieldLinkNest RX0 72 "RedTent" "UNDER" "[I" RX11) (rt_pc_in 3 _ (List.mem_of_getElem? (i := 177) (by decide +kernel)))),
    va_AO.of (hts (.arrayOver (.object RX0)) (rt_pc_in 1 _ (List.mem_of_getElem? (i := 52) (by decide +kernel)))),
    va_AO.of (hts (.arrayOver (.object RX7)) (rt_pc_in 2 _ (List.mem_of_getElem? (i := 77) (by decide +kernel)))),
    va_AO.of (hts (.arrayOver (.object RX9)) (rt_pc_in 1 _ (List.mem_of_getElem? (i := 173) (by decide +kernel)))),
    va_AOA.of (hts (.arrayOver (.array .int)) (rt_pc_in 2 _ (List.mem_of_getElem? (i := 59) (by decide +kernel))))⟩
set_option maxRecDepth 100000 in
theorem law_T0 {p : Program} {s : State} {m : MethodId} {meth : Method} {c : Code} {b L : Nat} {xs : Nat → Int32} (C0 : lw_At p s m meth c b L xs) : ∃ t : Nat, va_Z "RedTent$Text" "FIRST_TAKE" "[I" (.ref t) (fun q : Nat => s.heap.size ≤ q) s s.heap ∧ va_T .int t 5 rt_s0 (fun q : Nat => s.heap.size ≤ q) s s.heap := by
  obtain ⟨hx, hb, hr, hml, hown, hts, hX, hbl, hlocks, hgv⟩ := id C0
  have hs := flat_of_before _ hgv
  have hO : ∀ a : Nat, a < s.heap.size → ¬ (fun q : Nat => s.heap.size ≤ q) a := fun a h h2 => Nat.not_le.mpr h h2
  obtain ⟨t0, ht0, hT0⟩ := va_Tof (tm := (.static "RedTent$Text" "FIRST_TAKE" "[I")) (N := 5) (f := rt_s0) (A := (fun q : Nat => s.heap.size ≤ q)) (ty := .int) (by decide) (hs (.arrayOf (.static "RedTent$Text" "FIRST_TAKE" "[I") .int) (List.mem_of_getElem? (i := 5) (by decide +kernel))) (va_eqt (hs (.eq (.length (.static "RedTent$Text" "FIRST_TAKE" "[I")) (.int 5)) (List.mem_of_getElem? (i := 6) (by decide +kernel)))) (fun j hj => by
    rcases (show j = 0 ∨ j = 1 ∨ j = 2 ∨ j = 3 ∨ j = 4 by omega) with rfl | rfl | rfl | rfl | rfl
    · exact va_eqt (hs (.eq (.elem (.static "RedTent$Text" "FIRST_TAKE" "[I") (.int 0)) (.int (-2))) (List.mem_of_getElem? (i := 7) (by decide +kernel)))
    · exact va_eqt (hs (.eq (.elem (.static "RedTent$Text" "FIRST_TAKE" "[I") (.int 1)) (.int (2))) (List.mem_of_getElem? (i := 8) (by decide +kernel)))
    · exact va_eqt (hs (.eq (.elem (.static "RedTent$Text" "FIRST_TAKE" "[I") (.int 2)) (.int (-18))) (List.mem_of_getElem? (i := 9) (by decide +kernel)))
    · exact va_eqt (hs (.eq (.elem (.static "RedTent$Text" "FIRST_TAKE" "[I") (.int 3)) (.int (-1))) (List.mem_of_getElem? (i := 10) (by decide +kernel)))
    · exact va_eqt (hs (.eq (.elem (.static "RedTent$Text" "FIRST_TAKE" "[I") (.int 4)) (.int (-17))) (List.mem_of_getElem? (i := 11) (by decide +kernel)))) hO
  exact ⟨t0, va_Zref (hts (.laysStatic "RedTent$Text" "FIRST_TAKE" "[I") (rt_pc_in 1 _ (List.mem_of_getElem? (i := 234) (by decide +kernel)))) (hts (.initialized "RedTent$Text") (rt_pc_in 1 _ (List.mem_of_getElem? (i := 8) (by decide +kernel)))) ht0 hO, hT0⟩
set_option maxRecDepth 100000 in
theorem law_T1 {p : Program} {s : State} {m : MethodId} {meth : Method} {c : Code} {b L : Nat} {xs : Nat → Int32} (C0 : lw_At p s m meth c b L xs) : ∃ t : Nat, va_Z "RedTent$Text" "FIRST_GO" "[I" (.ref t) (fun q : Nat => s.heap.size ≤ q) s s.heap ∧ va_T .int t 5 rt_s1 (fun q : Nat => s.heap.size ≤ q) s s.heap := by
  obtain ⟨hx, hb, hr, hml, hown, hts, hX, hbl, hlocks, hgv⟩ := id C0
  have hs := flat_of_before _ hgv
  have hO : ∀ a : Nat, a < s.heap.size → ¬ (fun q : Nat => s.heap.size ≤ q) a := fun a h h2 => Nat.not_le.mpr h h2
  obtain ⟨t0, ht0, hT0⟩ := va_Tof (tm := (.static "RedTent$Text" "FIRST_GO" "[I")) (N := 5) (f := rt_s1) (A := (fun q : Nat => s.heap.size ≤ q)) (ty := .int) (by decide) (hs (.arrayOf (.static "RedTent$Text" "FIRST_GO" "[I") .int) (List.mem_of_getElem? (i := 13) (by decide +kernel))) (va_eqt (hs (.eq (.length (.static "RedTent$Text" "FIRST_GO" "[I")) (.int 5)) (List.mem_of_getElem? (i := 14) (by decide +kernel)))) (fun j hj => by
    rcases (show j = 0 ∨ j = 1 ∨ j = 2 ∨ j = 3 ∨ j = 4 by omega) with rfl | rfl | rfl | rfl | rfl
    · exact va_eqt (hs (.eq (.elem (.static "RedTent$Text" "FIRST_GO" "[I") (.int 0)) (.int (-6))) (List.mem_of_getElem? (i := 15) (by decide +kernel)))
    · exact va_eqt (hs (.eq (.elem (.static "RedTent$Text" "FIRST_GO" "[I") (.int 1)) (.int (6))) (List.mem_of_getElem? (i := 16) (by decide +kernel)))
    · exact va_eqt (hs (.eq (.elem (.static "RedTent$Text" "FIRST_GO" "[I") (.int 2)) (.int (-18))) (List.mem_of_getElem? (i := 17) (by decide +kernel)))
    · exact va_eqt (hs (.eq (.elem (.static "RedTent$Text" "FIRST_GO" "[I") (.int 3)) (.int (-5))) (List.mem_of_getElem? (i := 18) (by decide +kernel)))
    · exact va_eqt (hs (.eq (.elem (.static "RedTent$Text" "FIRST_GO" "[I") (.int 4)) (.int (-14))) (List.mem_of_getElem? (i := 19) (by decide +kernel)))) hO
  exact ⟨t0, va_Zref (hts (.laysStatic "RedTent$Text" "FIRST_GO" "[I") (rt_pc_in 2 _ (List.mem_of_getElem? (i := 0) (by decide +kernel)))) (hts (.initialized "RedTent$Text") (rt_pc_in 1 _ (List.mem_of_getElem? (i := 8) (by decide +kernel)))) ht0 hO, hT0⟩
set_option maxRecDepth 100000 in
theorem law_T2 {p : Program} {s : State} {m : MethodId} {meth : Method} {c : Code} {b L : Nat} {xs : Nat → Int32} (C0 : lw_At p s m meth c b L xs) : ∃ t : Nat, va_Z "RedTent$Breaker" "POWERS_OF_3" "[I" (.ref t) (fun q : Nat => s.heap.size ≤ q) s s.heap ∧ va_T .int t 6 rt_s2 (fun q : Nat => s.heap.size ≤ q) s s.heap := by
  obtain ⟨hx, hb, hr, hml, hown, hts, hX, hbl, hlocks, hgv⟩ := id C0
  have hs := flat_of_before _ hgv
  have hO : ∀ a : Nat, a < s.heap.size → ¬ (fun q : Nat => s.heap.size ≤ q) a := fun a h h2 => Nat.not_le.mpr h h2
  obtain ⟨t0, ht0, hT0⟩ := va_Tof (tm := (.static "RedTent$Breaker" "POWERS_OF_3" "[I")) (N := 6) (f := rt_s2) (A := (fun q : Nat => s.heap.size ≤ q)) (ty := .int) (by decide) (hs (.arrayOf (.static "RedTent$Breaker" "POWERS_OF_3" "[I") .int) (List.mem_of_getElem? (i := 62) (by decide +kernel))) (va_eqt (hs (.eq (.length (.static "RedTent$Breaker" "POWERS_OF_3" "[I")) (.int 6)) (List.mem_of_getElem? (i := 63) (by decide +kernel)))) (fun j hj => by
    rcases (show j = 0 ∨ j = 1 ∨ j = 2 ∨ j = 3 ∨ j = 4 ∨ j = 5 by omega) with rfl | rfl | rfl | rfl | rfl | rfl
    · exact va_eqt (hs (.eq (.elem (.static "RedTent$Breaker" "POWERS_OF_3" "[I") (.int 0)) (.int (1))) (List.mem_of_getElem? (i := 64) (by decide +kernel)))
    · exact va_eqt (hs (.eq (.elem (.static "RedTent$Breaker" "POWERS_OF_3" "[I") (.int 1)) (.int (3))) (List.mem_of_getElem? (i := 65) (by decide +kernel)))
    · exact va_eqt (hs (.eq (.elem (.static "RedTent$Breaker" "POWERS_OF_3" "[I") (.int 2)) (.int (9))) (List.mem_of_getElem? (i := 66) (by decide +kernel)))
    · exact va_eqt (hs (.eq (.elem (.static "RedTent$Breaker" "POWERS_OF_3" "[I") (.int 3)) (.int (27))) (List.mem_of_getElem? (i := 67) (by decide +kernel)))
    · exact va_eqt (hs (.eq (.elem (.static "RedTent$Breaker" "POWERS_OF_3" "[I") (.int 4)) (.int (81))) (List.mem_of_getElem? (i := 68) (by decide +kernel)))
    · exact va_eqt (hs (.eq (.elem (.static "RedTent$Breaker" "POWERS_OF_3" "[I") (.int 5)) (.int (243))) (List.mem_of_getElem? (i := 69) (by decide +kernel)))) hO
  exact ⟨t0, va_Zref (hts (.laysStatic "RedTent$Breaker" "POWERS_OF_3" "[I") (rt_pc_in 5 _ (List.mem_of_getElem? (i := 50) (by decide +kernel)))) (hts (.initialized "RedTent$Breaker") (rt_pc_in 1 _ (List.mem_of_getElem? (i := 10) (by decide +kernel)))) ht0 hO, hT0⟩
set_option maxRecDepth 100000 in
theorem law_T3 {p : Program} {s : State} {m : MethodId} {meth : Method} {c : Code} {b L : Nat} {xs : Nat → Int32} (C0 : lw_At p s m meth c b L xs) : ∃ t : Nat, va_Z "RedTent" "UNDER" "[I" (.ref t) (fun q : Nat => s.heap.size ≤ q) s s.heap ∧ va_T .int t 6 rt_s3 (fun q : Nat => s.heap.size ≤ q) s s.heap := by
  obtain ⟨hx, hb, hr, hml, hown, hts, hX, hbl, hlocks, hgv⟩ := id C0
  have hs := flat_of_before _ hgv
  have hO : ∀ a : Nat, a < s.heap.size → ¬ (fun q : Nat => s.heap.size ≤ q) a := fun a h h2 => Nat.not_le.mpr h h2
  obtain ⟨t0, ht0, hT0⟩ := va_Tof (tm := (.static "RedTent" "UNDER" "[I")) (N := 6) (f := rt_s3) (A := (fun q : Nat => s.heap.size ≤ q)) (ty := .int) (by decide) (hs (.arrayOf (.static "RedTent" "UNDER" "[I") .int) (List.mem_of_getElem? (i := 48) (by decide +kernel))) (va_eqt (hs (.eq (.length (.static "RedTent" "UNDER" "[I")) (.int 6)) (List.mem_of_getElem? (i := 49) (by decide +kernel)))) (fun j hj => by
    rcases (show j = 0 ∨ j = 1 ∨ j = 2 ∨ j = 3 ∨ j = 4 ∨ j = 5 by omega) with rfl | rfl | rfl | rfl | rfl | rfl
    · exact va_eqt (hs (.eq (.elem (.static "RedTent" "UNDER" "[I") (.int 0)) (.int (-1))) (List.mem_of_getElem? (i := 50) (by decide +kernel)))
    · exact va_eqt (hs (.eq (.elem (.static "RedTent" "UNDER" "[I") (.int 1)) (.int (0))) (List.mem_of_getElem? (i := 51) (by decide +kernel)))
    · exact va_eqt (hs (.eq (.elem (.static "RedTent" "UNDER" "[I") (.int 2)) (.int (0))) (List.mem_of_getElem? (i := 52) (by decide +kernel)))
    · exact va_eqt (hs (.eq (.elem (.static "RedTent" "UNDER" "[I") (.int 3)) (.int (1))) (List.mem_of_getElem? (i := 53) (by decide +kernel)))
    · exact va_eqt (hs (.eq (.elem (.static "RedTent" "UNDER" "[I") (.int 4)) (.int (1))) (List.mem_of_getElem? (i := 54) (by decide +kernel)))
    · exact va_eqt (hs (.eq (.elem (.static "RedTent" "UNDER" "[I") (.int 5)) (.int (2))) (List.mem_of_getElem? (i := 55) (by decide +kernel)))) hO
  exact ⟨t0, va_Zref (hts (.laysStatic "RedTent" "UNDER" "[I") (rt_pc_in 3 _ (List.mem_of_getElem? (i := 178) (by decide +kernel)))) (hts (.initialized "RedTent") (rt_pc_in 1 _ (List.mem_of_getElem? (i := 1) (by decide +kernel)))) ht0 hO, hT0⟩
set_option maxRecDepth 100000 in
theorem law_T4 {p : Program} {s : State} {m : MethodId} {meth : Method} {c : Code} {b L : Nat} {xs : Nat → Int32} (C0 : lw_At p s m meth c b L xs) : ∃ t : Nat, va_Z "RedTent" "EATS_A_MAN" "[I" (.ref t) (fun q : Nat => s.heap.size ≤ q) s s.heap ∧ va_T .int t 6 rt_s4 (fun q : Nat => s.heap.size ≤ q) s s.heap := by
  obtain ⟨hx, hb, hr, hml, hown, hts, hX, hbl, hlocks, hgv⟩ := id C0
  have hs := flat_of_before _ hgv
  have hO : ∀ a : Nat, a < s.heap.size → ¬ (fun q : Nat => s.heap.size ≤ q) a := fun a h h2 => Nat.not_le.mpr h h2
  obtain ⟨t0, ht0, hT0⟩ := va_Tof (tm := (.static "RedTent" "EATS_A_MAN" "[I")) (N := 6) (f := rt_s4) (A := (fun q : Nat => s.heap.size ≤ q)) (ty := .int) (by decide) (hs (.arrayOf (.static "RedTent" "EATS_A_MAN" "[I") .int) (List.mem_of_getElem? (i := 21) (by decide +kernel))) (va_eqt (hs (.eq (.length (.static "RedTent" "EATS_A_MAN" "[I")) (.int 6)) (List.mem_of_getElem? (i := 22) (by decide +kernel)))) (fun j hj => by
    rcases (show j = 0 ∨ j = 1 ∨ j = 2 ∨ j = 3 ∨ j = 4 ∨ j = 5 by omega) with rfl | rfl | rfl | rfl | rfl | rfl
    · exact va_eqt (hs (.eq (.elem (.static "RedTent" "EATS_A_MAN" "[I") (.int 0)) (.int (0))) (List.mem_of_getElem? (i := 23) (by decide +kernel)))
    · exact va_eqt (hs (.eq (.elem (.static "RedTent" "EATS_A_MAN" "[I") (.int 1)) (.int (1))) (List.mem_of_getElem? (i := 24) (by decide +kernel)))
    · exact va_eqt (hs (.eq (.elem (.static "RedTent" "EATS_A_MAN" "[I") (.int 2)) (.int (0))) (List.mem_of_getElem? (i := 25) (by decide +kernel)))
    · exact va_eqt (hs (.eq (.elem (.static "RedTent" "EATS_A_MAN" "[I") (.int 3)) (.int (1))) (List.mem_of_getElem? (i := 26) (by decide +kernel)))
    · exact va_eqt (hs (.eq (.elem (.static "RedTent" "EATS_A_MAN" "[I") (.int 4)) (.int (2))) (List.mem_of_getElem? (i := 27) (by decide +kernel)))
    · exact va_eqt (hs (.eq (.elem (.static "RedTent" "EATS_A_MAN" "[I") (.int 5)) (.int (0))) (List.mem_of_getElem? (i := 28) (by decide +kernel)))) hO
  exact ⟨t0, va_Zref (hts (.laysStatic "RedTent" "EATS_A_MAN" "[I") (rt_pc_in 2 _ (List.mem_of_getElem? (i := 152) (by decide +kernel)))) (hts (.initialized "RedTent") (rt_pc_in 1 _ (List.mem_of_getElem? (i := 1) (by decide +kernel)))) ht0 hO, hT0⟩
set_option maxRecDepth 100000 in
theorem law_T5 {p : Program} {s : State} {m : MethodId} {meth : Method} {c : Code} {b L : Nat} {xs : Nat → Int32} (C0 : lw_At p s m meth c b L xs) : ∃ t : Nat, va_Z "RedTent" "EATS_BESIDE" "[I" (.ref t) (fun q : Nat => s.heap.size ≤ q) s s.heap ∧ va_T .int t 6 rt_s5 (fun q : Nat => s.heap.size ≤ q) s s.heap := by
  obtain ⟨hx, hb, hr, hml, hown, hts, hX, hbl, hlocks, hgv⟩ := id C0
  have hs := flat_of_before _ hgv
  have hO : ∀ a : Nat, a < s.heap.size → ¬ (fun q : Nat => s.heap.size ≤ q) a := fun a h h2 => Nat.not_le.mpr h h2
  obtain ⟨t0, ht0, hT0⟩ := va_Tof (tm := (.static "RedTent" "EATS_BESIDE" "[I")) (N := 6) (f := rt_s5) (A := (fun q : Nat => s.heap.size ≤ q)) (ty := .int) (by decide) (hs (.arrayOf (.static "RedTent" "EATS_BESIDE" "[I") .int) (List.mem_of_getElem? (i := 30) (by decide +kernel))) (va_eqt (hs (.eq (.length (.static "RedTent" "EATS_BESIDE" "[I")) (.int 6)) (List.mem_of_getElem? (i := 31) (by decide +kernel)))) (fun j hj => by
    rcases (show j = 0 ∨ j = 1 ∨ j = 2 ∨ j = 3 ∨ j = 4 ∨ j = 5 by omega) with rfl | rfl | rfl | rfl | rfl | rfl
    · exact va_eqt (hs (.eq (.elem (.static "RedTent" "EATS_BESIDE" "[I") (.int 0)) (.int (0))) (List.mem_of_getElem? (i := 32) (by decide +kernel)))
    · exact va_eqt (hs (.eq (.elem (.static "RedTent" "EATS_BESIDE" "[I") (.int 1)) (.int (0))) (List.mem_of_getElem? (i := 33) (by decide +kernel)))
    · exact va_eqt (hs (.eq (.elem (.static "RedTent" "EATS_BESIDE" "[I") (.int 2)) (.int (0))) (List.mem_of_getElem? (i := 34) (by decide +kernel)))
    · exact va_eqt (hs (.eq (.elem (.static "RedTent" "EATS_BESIDE" "[I") (.int 3)) (.int (1))) (List.mem_of_getElem? (i := 35) (by decide +kernel)))
    · exact va_eqt (hs (.eq (.elem (.static "RedTent" "EATS_BESIDE" "[I") (.int 4)) (.int (0))) (List.mem_of_getElem? (i := 36) (by decide +kernel)))
    · exact va_eqt (hs (.eq (.elem (.static "RedTent" "EATS_BESIDE" "[I") (.int 5)) (.int (1))) (List.mem_of_getElem? (i := 37) (by decide +kernel)))) hO
  exact ⟨t0, va_Zref (hts (.laysStatic "RedTent" "EATS_BESIDE" "[I") (rt_pc_in 2 _ (List.mem_of_getElem? (i := 154) (by decide +kernel)))) (hts (.initialized "RedTent") (rt_pc_in 1 _ (List.mem_of_getElem? (i := 1) (by decide +kernel)))) ht0 hO, hT0⟩
set_option maxRecDepth 100000 in
theorem law_T6 {p : Program} {s : State} {m : MethodId} {meth : Method} {c : Code} {b L : Nat} {xs : Nat → Int32} (C0 : lw_At p s m meth c b L xs) : ∃ t : Nat, va_Z "RedTent" "BURNS" "[I" (.ref t) (fun q : Nat => s.heap.size ≤ q) s s.heap ∧ va_T .int t 6 rt_s6 (fun q : Nat => s.heap.size ≤ q) s s.heap := by
  obtain ⟨hx, hb, hr, hml, hown, hts, hX, hbl, hlocks, hgv⟩ := id C0
  have hs := flat_of_before _ hgv
  have hO : ∀ a : Nat, a < s.heap.size → ¬ (fun q : Nat => s.heap.size ≤ q) a := fun a h h2 => Nat.not_le.mpr h h2
  obtain ⟨t0, ht0, hT0⟩ := va_Tof (tm := (.static "RedTent" "BURNS" "[I")) (N := 6) (f := rt_s6) (A := (fun q : Nat => s.heap.size ≤ q)) (ty := .int) (by decide) (hs (.arrayOf (.static "RedTent" "BURNS" "[I") .int) (List.mem_of_getElem? (i := 39) (by decide +kernel))) (va_eqt (hs (.eq (.length (.static "RedTent" "BURNS" "[I")) (.int 6)) (List.mem_of_getElem? (i := 40) (by decide +kernel)))) (fun j hj => by
    rcases (show j = 0 ∨ j = 1 ∨ j = 2 ∨ j = 3 ∨ j = 4 ∨ j = 5 by omega) with rfl | rfl | rfl | rfl | rfl | rfl
    · exact va_eqt (hs (.eq (.elem (.static "RedTent" "BURNS" "[I") (.int 0)) (.int (1))) (List.mem_of_getElem? (i := 41) (by decide +kernel)))
    · exact va_eqt (hs (.eq (.elem (.static "RedTent" "BURNS" "[I") (.int 1)) (.int (1))) (List.mem_of_getElem? (i := 42) (by decide +kernel)))
    · exact va_eqt (hs (.eq (.elem (.static "RedTent" "BURNS" "[I") (.int 2)) (.int (3))) (List.mem_of_getElem? (i := 43) (by decide +kernel)))
    · exact va_eqt (hs (.eq (.elem (.static "RedTent" "BURNS" "[I") (.int 3)) (.int (1))) (List.mem_of_getElem? (i := 44) (by decide +kernel)))
    · exact va_eqt (hs (.eq (.elem (.static "RedTent" "BURNS" "[I") (.int 4)) (.int (1))) (List.mem_of_getElem? (i := 45) (by decide +kernel)))
    · exact va_eqt (hs (.eq (.elem (.static "RedTent" "BURNS" "[I") (.int 5)) (.int (6))) (List.mem_of_getElem? (i := 46) (by decide +kernel)))) hO
  exact ⟨t0, va_Zref (hts (.laysStatic "RedTent" "BURNS" "[I") (rt_pc_in 3 _ (List.mem_of_getElem? (i := 29) (by decide +kernel)))) (hts (.initialized "RedTent") (rt_pc_in 1 _ (List.mem_of_getElem? (i := 1) (by decide +kernel)))) ht0 hO, hT0⟩
set_option maxRecDepth 100000 in
theorem law_T {p : Program} {s : State} {m : MethodId} {meth : Method} {c : Code} {b L : Nat} {xs : Nat → Int32} (C0 : lw_At p s m meth c b L xs) : rt_T (fun q : Nat => s.heap.size ≤ q) s s.heap := ⟨law_T0 C0, law_T1 C0, law_T2 C0, law_T3 C0, law_T4 C0, law_T5 C0, law_T6 C0⟩
set_option maxRecDepth 100000 in
theorem law_S0 {p : Program} {s : State} {m : MethodId} {meth : Method} {c : Code} {b L : Nat} {xs : Nat → Int32} (C0 : lw_At p s m meth c b L xs) : ∃ q v : Nat, rt_Str q v 8 (fun j => ([115, 116, 114, 101, 110, 103, 116, 104] : List Int32).getD j 0) (fun q : Nat => s.heap.size ≤ q) s s.heap ∧ vk_R RX5 131 "strength" q s := by
  obtain ⟨hx, hb, hr, hml, hown, hts, hX, hbl, hlocks, hgv⟩ := id C0
  have hs := flat_of_before _ hgv
  have hO : ∀ a : Nat, a < s.heap.size → ¬ (fun q : Nat => s.heap.size ≤ q) a := fun a h h2 => Nat.not_le.mpr h h2
  have hall : ∀ j : Nat, j < 8 → (Cond.eq (.elem (.field (.string RX5 131) "java/lang/String" "value" "[B") (.int (Int32.ofNat j))) (.int (([115, 116, 114, 101, 110, 103, 116, 104] : List Int32).getD j 0))).before #[Value.ref b] s = true := by
    intro j hj
    have h1 : (List.range 8).all (fun j => decide ((flatC (Jvm.Cond.and given_1 narrow_1))[74 + j]? = some (Cond.eq (.elem (.field (.string RX5 131) "java/lang/String" "value" "[B") (.int (Int32.ofNat j))) (.int (([115, 116, 114, 101, 110, 103, 116, 104] : List Int32).getD j 0))))) = true := by decide +kernel
    exact hs _ (List.mem_of_getElem? (of_decide_eq_true (List.all_eq_true.mp h1 j (List.mem_range.mpr hj))))
  have h01 : ∀ i : Nat, i < 1 → i = 0 := fun i h => by omega
  obtain ⟨adK, adV, hV, hev⟩ := vk_Sof (args := #[Value.ref b]) (s := s) (N := 1) (tm := fun _ => (.string RX5 131)) (len := [8]) (byt := [[115, 116, 114, 101, 110, 103, 116, 104]]) (A := (fun q : Nat => s.heap.size ≤ q)) (fun i hi => by rw [h01 i hi]; decide) (fun i hi => hs (.exactly (.string RX5 131) "java/lang/String") (List.mem_of_getElem? (i := 70) (by decide +kernel))) (fun i hi => hs (.eq (.field (.string RX5 131) "java/lang/String" "coder" "B") (.int 0)) (List.mem_of_getElem? (i := 71) (by decide +kernel))) (fun i hi => hs (.arrayOf (.field (.string RX5 131) "java/lang/String" "value" "[B") .byte) (List.mem_of_getElem? (i := 72) (by decide +kernel))) (fun i hi => by rw [h01 i hi]; exact hs (.eq (.length (.field (.string RX5 131) "java/lang/String" "value" "[B")) (.int 8)) (List.mem_of_getElem? (i := 73) (by decide +kernel))) (fun i hi j hj => by rw [h01 i hi] at hj ⊢; exact hall j hj) (fun i j hi hj hne => absurd ((h01 i hi).trans (h01 j hj).symm) hne) hO
  obtain ⟨h1, h2, h3, h4⟩ := hV.1 0 (by decide)
  refine ⟨adK 0, adV 0, ⟨h1, h2, h3, h4, ?_, ?_⟩, ?_⟩
  · exact va_Zof (hts (.laysStatic "java/lang/String" "COMPACT_STRINGS" "Z") (rt_pc_in 4 _ (List.mem_of_getElem? (i := 104) (by decide +kernel)))) (hts (.initialized "java/lang/String") (rt_pc_in 1 _ (List.mem_of_getElem? (i := 13) (by decide +kernel)))) (va_eqi (hs (.eq (.static "java/lang/String" "COMPACT_STRINGS" "Z") (.int 1)) (List.mem_of_getElem? (i := 56) (by decide +kernel)))) hO
  · exact va_Zqof (hts (.laysStatic "jdk/internal/util/Preconditions" "SIOOBE_FORMATTER" "Ljava/util/function/BiFunction;") (rt_pc_in 4 _ (List.mem_of_getElem? (i := 120) (by decide +kernel)))) (hts (.initialized "jdk/internal/util/Preconditions") (rt_pc_in 1 _ (List.mem_of_getElem? (i := 15) (by decide +kernel)))) (hs (.isRef (.static "jdk/internal/util/Preconditions" "SIOOBE_FORMATTER" "Ljava/util/function/BiFunction;")) (by decide +kernel)) hO
  · exact vk_R.of (A := #[Value.ref b]) (hts (.stringRef RX5 131 "strength") (rt_pc_in 4 _ (List.mem_of_getElem? (i := 80) (by decide +kernel)))) (hev 0 (by decide))
set_option maxRecDepth 100000 in
theorem law_S1 {p : Program} {s : State} {m : MethodId} {meth : Method} {c : Code} {b L : Nat} {xs : Nat → Int32} (C0 : lw_At p s m meth c b L xs) : ∃ q v : Nat, rt_Str q v 4 (fun j => ([104, 117, 114, 116] : List Int32).getD j 0) (fun q : Nat => s.heap.size ≤ q) s s.heap ∧ vk_R RX5 133 "hurt" q s := by
  obtain ⟨hx, hb, hr, hml, hown, hts, hX, hbl, hlocks, hgv⟩ := id C0
  have hs := flat_of_before _ hgv
  have hO : ∀ a : Nat, a < s.heap.size → ¬ (fun q : Nat => s.heap.size ≤ q) a := fun a h h2 => Nat.not_le.mpr h h2
  have hall : ∀ j : Nat, j < 4 → (Cond.eq (.elem (.field (.string RX5 133) "java/lang/String" "value" "[B") (.int (Int32.ofNat j))) (.int (([104, 117, 114, 116] : List Int32).getD j 0))).before #[Value.ref b] s = true := by
    intro j hj
    have h1 : (List.range 4).all (fun j => decide ((flatC (Jvm.Cond.and given_1 narrow_1))[86 + j]? = some (Cond.eq (.elem (.field (.string RX5 133) "java/lang/String" "value" "[B") (.int (Int32.ofNat j))) (.int (([104, 117, 114, 116] : List Int32).getD j 0))))) = true := by decide +kernel
    exact hs _ (List.mem_of_getElem? (of_decide_eq_true (List.all_eq_true.mp h1 j (List.mem_range.mpr hj))))
  have h01 : ∀ i : Nat, i < 1 → i = 0 := fun i h => by omega
  obtain ⟨adK, adV, hV, hev⟩ := vk_Sof (args := #[Value.ref b]) (s := s) (N := 1) (tm := fun _ => (.string RX5 133)) (len := [4]) (byt := [[104, 117, 114, 116]]) (A := (fun q : Nat => s.heap.size ≤ q)) (fun i hi => by rw [h01 i hi]; decide) (fun i hi => hs (.exactly (.string RX5 133) "java/lang/String") (List.mem_of_getElem? (i := 82) (by decide +kernel))) (fun i hi => hs (.eq (.field (.string RX5 133) "java/lang/String" "coder" "B") (.int 0)) (List.mem_of_getElem? (i := 83) (by decide +kernel))) (fun i hi => hs (.arrayOf (.field (.string RX5 133) "java/lang/String" "value" "[B") .byte) (List.mem_of_getElem? (i := 84) (by decide +kernel))) (fun i hi => by rw [h01 i hi]; exact hs (.eq (.length (.field (.string RX5 133) "java/lang/String" "value" "[B")) (.int 4)) (List.mem_of_getElem? (i := 85) (by decide +kernel))) (fun i hi j hj => by rw [h01 i hi] at hj ⊢; exact hall j hj) (fun i j hi hj hne => absurd ((h01 i hi).trans (h01 j hj).symm) hne) hO
  obtain ⟨h1, h2, h3, h4⟩ := hV.1 0 (by decide)
  refine ⟨adK 0, adV 0, ⟨h1, h2, h3, h4, ?_, ?_⟩, ?_⟩
  · exact va_Zof (hts (.laysStatic "java/lang/String" "COMPACT_STRINGS" "Z") (rt_pc_in 4 _ (List.mem_of_getElem? (i := 104) (by decide +kernel)))) (hts (.initialized "java/lang/String") (rt_pc_in 1 _ (List.mem_of_getElem? (i := 13) (by decide +kernel)))) (va_eqi (hs (.eq (.static "java/lang/String" "COMPACT_STRINGS" "Z") (.int 1)) (List.mem_of_getElem? (i := 56) (by decide +kernel)))) hO
  · exact va_Zqof (hts (.laysStatic "jdk/internal/util/Preconditions" "SIOOBE_FORMATTER" "Ljava/util/function/BiFunction;") (rt_pc_in 4 _ (List.mem_of_getElem? (i := 120) (by decide +kernel)))) (hts (.initialized "jdk/internal/util/Preconditions") (rt_pc_in 1 _ (List.mem_of_getElem? (i := 15) (by decide +kernel)))) (hs (.isRef (.static "jdk/internal/util/Preconditions" "SIOOBE_FORMATTER" "Ljava/util/function/BiFunction;")) (by decide +kernel)) hO
  · exact vk_R.of (A := #[Value.ref b]) (hts (.stringRef RX5 133 "hurt") (rt_pc_in 4 _ (List.mem_of_getElem? (i := 81) (by decide +kernel)))) (hev 0 (by decide))
set_option maxRecDepth 100000 in
theorem law_S2 {p : Program} {s : State} {m : MethodId} {meth : Method} {c : Code} {b L : Nat} {xs : Nat → Int32} (C0 : lw_At p s m meth c b L xs) : ∃ q v : Nat, rt_Str q v 5 (fun j => ([115, 107, 105, 108, 108] : List Int32).getD j 0) (fun q : Nat => s.heap.size ≤ q) s s.heap ∧ vk_R RX5 135 "skill" q s := by
  obtain ⟨hx, hb, hr, hml, hown, hts, hX, hbl, hlocks, hgv⟩ := id C0
  have hs := flat_of_before _ hgv
  have hO : ∀ a : Nat, a < s.heap.size → ¬ (fun q : Nat => s.heap.size ≤ q) a := fun a h h2 => Nat.not_le.mpr h h2
  have hall : ∀ j : Nat, j < 5 → (Cond.eq (.elem (.field (.string RX5 135) "java/lang/String" "value" "[B") (.int (Int32.ofNat j))) (.int (([115, 107, 105, 108, 108] : List Int32).getD j 0))).before #[Value.ref b] s = true := by
    intro j hj
    have h1 : (List.range 5).all (fun j => decide ((flatC (Jvm.Cond.and given_1 narrow_1))[94 + j]? = some (Cond.eq (.elem (.field (.string RX5 135) "java/lang/String" "value" "[B") (.int (Int32.ofNat j))) (.int (([115, 107, 105, 108, 108] : List Int32).getD j 0))))) = true := by decide +kernel
    exact hs _ (List.mem_of_getElem? (of_decide_eq_true (List.all_eq_true.mp h1 j (List.mem_range.mpr hj))))
  have h01 : ∀ i : Nat, i < 1 → i = 0 := fun i h => by omega
  obtain ⟨adK, adV, hV, hev⟩ := vk_Sof (args := #[Value.ref b]) (s := s) (N := 1) (tm := fun _ => (.string RX5 135)) (len := [5]) (byt := [[115, 107, 105, 108, 108]]) (A := (fun q : Nat => s.heap.size ≤ q)) (fun i hi => by rw [h01 i hi]; decide) (fun i hi => hs (.exactly (.string RX5 135) "java/lang/String") (List.mem_of_getElem? (i := 90) (by decide +kernel))) (fun i hi => hs (.eq (.field (.string RX5 135) "java/lang/String" "coder" "B") (.int 0)) (List.mem_of_getElem? (i := 91) (by decide +kernel))) (fun i hi => hs (.arrayOf (.field (.string RX5 135) "java/lang/String" "value" "[B") .byte) (List.mem_of_getElem? (i := 92) (by decide +kernel))) (fun i hi => by rw [h01 i hi]; exact hs (.eq (.length (.field (.string RX5 135) "java/lang/String" "value" "[B")) (.int 5)) (List.mem_of_getElem? (i := 93) (by decide +kernel))) (fun i hi j hj => by rw [h01 i hi] at hj ⊢; exact hall j hj) (fun i j hi hj hne => absurd ((h01 i hi).trans (h01 j hj).symm) hne) hO
  obtain ⟨h1, h2, h3, h4⟩ := hV.1 0 (by decide)
  refine ⟨adK 0, adV 0, ⟨h1, h2, h3, h4, ?_, ?_⟩, ?_⟩
  · exact va_Zof (hts (.laysStatic "java/lang/String" "COMPACT_STRINGS" "Z") (rt_pc_in 4 _ (List.mem_of_getElem? (i := 104) (by decide +kernel)))) (hts (.initialized "java/lang/String") (rt_pc_in 1 _ (List.mem_of_getElem? (i := 13) (by decide +kernel)))) (va_eqi (hs (.eq (.static "java/lang/String" "COMPACT_STRINGS" "Z") (.int 1)) (List.mem_of_getElem? (i := 56) (by decide +kernel)))) hO
  · exact va_Zqof (hts (.laysStatic "jdk/internal/util/Preconditions" "SIOOBE_FORMATTER" "Ljava/util/function/BiFunction;") (rt_pc_in 4 _ (List.mem_of_getElem? (i := 120) (by decide +kernel)))) (hts (.initialized "jdk/internal/util/Preconditions") (rt_pc_in 1 _ (List.mem_of_getElem? (i := 15) (by decide +kernel)))) (hs (.isRef (.static "jdk/internal/util/Preconditions" "SIOOBE_FORMATTER" "Ljava/util/function/BiFunction;")) (by decide +kernel)) hO
  · exact vk_R.of (A := #[Value.ref b]) (hts (.stringRef RX5 135 "skill") (rt_pc_in 4 _ (List.mem_of_getElem? (i := 82) (by decide +kernel)))) (hev 0 (by decide))
set_option maxRecDepth 100000 in
theorem law_S3 {p : Program} {s : State} {m : MethodId} {meth : Method} {c : Code} {b L : Nat} {xs : Nat → Int32} (C0 : lw_At p s m meth c b L xs) : ∃ q v : Nat, rt_Str q v 4 (fun j => ([104, 111, 117, 114] : List Int32).getD j 0) (fun q : Nat => s.heap.size ≤ q) s s.heap ∧ vk_R RX5 137 "hour" q s := by
  obtain ⟨hx, hb, hr, hml, hown, hts, hX, hbl, hlocks, hgv⟩ := id C0
  have hs := flat_of_before _ hgv
  have hO : ∀ a : Nat, a < s.heap.size → ¬ (fun q : Nat => s.heap.size ≤ q) a := fun a h h2 => Nat.not_le.mpr h h2
  have hall : ∀ j : Nat, j < 4 → (Cond.eq (.elem (.field (.string RX5 137) "java/lang/String" "value" "[B") (.int (Int32.ofNat j))) (.int (([104, 111, 117, 114] : List Int32).getD j 0))).before #[Value.ref b] s = true := by
    intro j hj
    have h1 : (List.range 4).all (fun j => decide ((flatC (Jvm.Cond.and given_1 narrow_1))[103 + j]? = some (Cond.eq (.elem (.field (.string RX5 137) "java/lang/String" "value" "[B") (.int (Int32.ofNat j))) (.int (([104, 111, 117, 114] : List Int32).getD j 0))))) = true := by decide +kernel
    exact hs _ (List.mem_of_getElem? (of_decide_eq_true (List.all_eq_true.mp h1 j (List.mem_range.mpr hj))))
  have h01 : ∀ i : Nat, i < 1 → i = 0 := fun i h => by omega
  obtain ⟨adK, adV, hV, hev⟩ := vk_Sof (args := #[Value.ref b]) (s := s) (N := 1) (tm := fun _ => (.string RX5 137)) (len := [4]) (byt := [[104, 111, 117, 114]]) (A := (fun q : Nat => s.heap.size ≤ q)) (fun i hi => by rw [h01 i hi]; decide) (fun i hi => hs (.exactly (.string RX5 137) "java/lang/String") (List.mem_of_getElem? (i := 99) (by decide +kernel))) (fun i hi => hs (.eq (.field (.string RX5 137) "java/lang/String" "coder" "B") (.int 0)) (List.mem_of_getElem? (i := 100) (by decide +kernel))) (fun i hi => hs (.arrayOf (.field (.string RX5 137) "java/lang/String" "value" "[B") .byte) (List.mem_of_getElem? (i := 101) (by decide +kernel))) (fun i hi => by rw [h01 i hi]; exact hs (.eq (.length (.field (.string RX5 137) "java/lang/String" "value" "[B")) (.int 4)) (List.mem_of_getElem? (i := 102) (by decide +kernel))) (fun i hi j hj => by rw [h01 i hi] at hj ⊢; exact hall j hj) (fun i j hi hj hne => absurd ((h01 i hi).trans (h01 j hj).symm) hne) hO
  obtain ⟨h1, h2, h3, h4⟩ := hV.1 0 (by decide)
  refine ⟨adK 0, adV 0, ⟨h1, h2, h3, h4, ?_, ?_⟩, ?_⟩
  · exact va_Zof (hts (.laysStatic "java/lang/String" "COMPACT_STRINGS" "Z") (rt_pc_in 4 _ (List.mem_of_getElem? (i := 104) (by decide +kernel)))) (hts (.initialized "java/lang/String") (rt_pc_in 1 _ (List.mem_of_getElem? (i := 13) (by decide +kernel)))) (va_eqi (hs (.eq (.static "java/lang/String" "COMPACT_STRINGS" "Z") (.int 1)) (List.mem_of_getElem? (i := 56) (by decide +kernel)))) hO
  · exact va_Zqof (hts (.laysStatic "jdk/internal/util/Preconditions" "SIOOBE_FORMATTER" "Ljava/util/function/BiFunction;") (rt_pc_in 4 _ (List.mem_of_getElem? (i := 120) (by decide +kernel)))) (hts (.initialized "jdk/internal/util/Preconditions") (rt_pc_in 1 _ (List.mem_of_getElem? (i := 15) (by decide +kernel)))) (hs (.isRef (.static "jdk/internal/util/Preconditions" "SIOOBE_FORMATTER" "Ljava/util/function/BiFunction;")) (by decide +kernel)) hO
  · exact vk_R.of (A := #[Value.ref b]) (hts (.stringRef RX5 137 "hour") (rt_pc_in 4 _ (List.mem_of_getElem? (i := 83) (by decide +kernel)))) (hev 0 (by decide))
set_option maxRecDepth 100000 in
theorem law_S4 {p : Program} {s : State} {m : MethodId} {meth : Method} {c : Code} {b L : Nat} {xs : Nat → Int32} (C0 : lw_At p s m meth c b L xs) : ∃ q v : Nat, rt_Str q v 4 (fun j => ([102, 117, 101, 108] : List Int32).getD j 0) (fun q : Nat => s.heap.size ≤ q) s s.heap ∧ vk_R RX5 139 "fuel" q s := by
  obtain ⟨hx, hb, hr, hml, hown, hts, hX, hbl, hlocks, hgv⟩ := id C0
  have hs := flat_of_before _ hgv
  have hO : ∀ a : Nat, a < s.heap.size → ¬ (fun q : Nat => s.heap.size ≤ q) a := fun a h h2 => Nat.not_le.mpr h h2
  have hall : ∀ j : Nat, j < 4 → (Cond.eq (.elem (.field (.string RX5 139) "java/lang/String" "value" "[B") (.int (Int32.ofNat j))) (.int (([102, 117, 101, 108] : List Int32).getD j 0))).before #[Value.ref b] s = true := by
    intro j hj
    have h1 : (List.range 4).all (fun j => decide ((flatC (Jvm.Cond.and given_1 narrow_1))[111 + j]? = some (Cond.eq (.elem (.field (.string RX5 139) "java/lang/String" "value" "[B") (.int (Int32.ofNat j))) (.int (([102, 117, 101, 108] : List Int32).getD j 0))))) = true := by decide +kernel
    exact hs _ (List.mem_of_getElem? (of_decide_eq_true (List.all_eq_true.mp h1 j (List.mem_range.mpr hj))))
  have h01 : ∀ i : Nat, i < 1 → i = 0 := fun i h => by omega
  obtain ⟨adK, adV, hV, hev⟩ := vk_Sof (args := #[Value.ref b]) (s := s) (N := 1) (tm := fun _ => (.string RX5 139)) (len := [4]) (byt := [[102, 117, 101, 108]]) (A := (fun q : Nat => s.heap.size ≤ q)) (fun i hi => by rw [h01 i hi]; decide) (fun i hi => hs (.exactly (.string RX5 139) "java/lang/String") (List.mem_of_getElem? (i := 107) (by decide +kernel))) (fun i hi => hs (.eq (.field (.string RX5 139) "java/lang/String" "coder" "B") (.int 0)) (List.mem_of_getElem? (i := 108) (by decide +kernel))) (fun i hi => hs (.arrayOf (.field (.string RX5 139) "java/lang/String" "value" "[B") .byte) (List.mem_of_getElem? (i := 109) (by decide +kernel))) (fun i hi => by rw [h01 i hi]; exact hs (.eq (.length (.field (.string RX5 139) "java/lang/String" "value" "[B")) (.int 4)) (List.mem_of_getElem? (i := 110) (by decide +kernel))) (fun i hi j hj => by rw [h01 i hi] at hj ⊢; exact hall j hj) (fun i j hi hj hne => absurd ((h01 i hi).trans (h01 j hj).symm) hne) hO
  obtain ⟨h1, h2, h3, h4⟩ := hV.1 0 (by decide)
  refine ⟨adK 0, adV 0, ⟨h1, h2, h3, h4, ?_, ?_⟩, ?_⟩
  · exact va_Zof (hts (.laysStatic "java/lang/String" "COMPACT_STRINGS" "Z") (rt_pc_in 4 _ (List.mem_of_getElem? (i := 104) (by decide +kernel)))) (hts (.initialized "java/lang/String") (rt_pc_in 1 _ (List.mem_of_getElem? (i := 13) (by decide +kernel)))) (va_eqi (hs (.eq (.static "java/lang/String" "COMPACT_STRINGS" "Z") (.int 1)) (List.mem_of_getElem? (i := 56) (by decide +kernel)))) hO
  · exact va_Zqof (hts (.laysStatic "jdk/internal/util/Preconditions" "SIOOBE_FORMATTER" "Ljava/util/function/BiFunction;") (rt_pc_in 4 _ (List.mem_of_getElem? (i := 120) (by decide +kernel)))) (hts (.initialized "jdk/internal/util/Preconditions") (rt_pc_in 1 _ (List.mem_of_getElem? (i := 15) (by decide +kernel)))) (hs (.isRef (.static "jdk/internal/util/Preconditions" "SIOOBE_FORMATTER" "Ljava/util/function/BiFunction;")) (by decide +kernel)) hO
  · exact vk_R.of (A := #[Value.ref b]) (hts (.stringRef RX5 139 "fuel") (rt_pc_in 4 _ (List.mem_of_getElem? (i := 84) (by decide +kernel)))) (hev 0 (by decide))
set_option maxRecDepth 100000 in
theorem law_S5 {p : Program} {s : State} {m : MethodId} {meth : Method} {c : Code} {b L : Nat} {xs : Nat → Int32} (C0 : lw_At p s m meth c b L xs) : ∃ q v : Nat, rt_Str q v 3 (fun j => ([102, 97, 114] : List Int32).getD j 0) (fun q : Nat => s.heap.size ≤ q) s s.heap ∧ vk_R RX5 141 "far" q s := by
  obtain ⟨hx, hb, hr, hml, hown, hts, hX, hbl, hlocks, hgv⟩ := id C0
  have hs := flat_of_before _ hgv
  have hO : ∀ a : Nat, a < s.heap.size → ¬ (fun q : Nat => s.heap.size ≤ q) a := fun a h h2 => Nat.not_le.mpr h h2
  have hall : ∀ j : Nat, j < 3 → (Cond.eq (.elem (.field (.string RX5 141) "java/lang/String" "value" "[B") (.int (Int32.ofNat j))) (.int (([102, 97, 114] : List Int32).getD j 0))).before #[Value.ref b] s = true := by
    intro j hj
    have h1 : (List.range 3).all (fun j => decide ((flatC (Jvm.Cond.and given_1 narrow_1))[119 + j]? = some (Cond.eq (.elem (.field (.string RX5 141) "java/lang/String" "value" "[B") (.int (Int32.ofNat j))) (.int (([102, 97, 114] : List Int32).getD j 0))))) = true := by decide +kernel
    exact hs _ (List.mem_of_getElem? (of_decide_eq_true (List.all_eq_true.mp h1 j (List.mem_range.mpr hj))))
  have h01 : ∀ i : Nat, i < 1 → i = 0 := fun i h => by omega
  obtain ⟨adK, adV, hV, hev⟩ := vk_Sof (args := #[Value.ref b]) (s := s) (N := 1) (tm := fun _ => (.string RX5 141)) (len := [3]) (byt := [[102, 97, 114]]) (A := (fun q : Nat => s.heap.size ≤ q)) (fun i hi => by rw [h01 i hi]; decide) (fun i hi => hs (.exactly (.string RX5 141) "java/lang/String") (List.mem_of_getElem? (i := 115) (by decide +kernel))) (fun i hi => hs (.eq (.field (.string RX5 141) "java/lang/String" "coder" "B") (.int 0)) (List.mem_of_getElem? (i := 116) (by decide +kernel))) (fun i hi => hs (.arrayOf (.field (.string RX5 141) "java/lang/String" "value" "[B") .byte) (List.mem_of_getElem? (i := 117) (by decide +kernel))) (fun i hi => by rw [h01 i hi]; exact hs (.eq (.length (.field (.string RX5 141) "java/lang/String" "value" "[B")) (.int 3)) (List.mem_of_getElem? (i := 118) (by decide +kernel))) (fun i hi j hj => by rw [h01 i hi] at hj ⊢; exact hall j hj) (fun i j hi hj hne => absurd ((h01 i hi).trans (h01 j hj).symm) hne) hO
  obtain ⟨h1, h2, h3, h4⟩ := hV.1 0 (by decide)
  refine ⟨adK 0, adV 0, ⟨h1, h2, h3, h4, ?_, ?_⟩, ?_⟩
  · exact va_Zof (hts (.laysStatic "java/lang/String" "COMPACT_STRINGS" "Z") (rt_pc_in 4 _ (List.mem_of_getElem? (i := 104) (by decide +kernel)))) (hts (.initialized "java/lang/String") (rt_pc_in 1 _ (List.mem_of_getElem? (i := 13) (by decide +kernel)))) (va_eqi (hs (.eq (.static "java/lang/String" "COMPACT_STRINGS" "Z") (.int 1)) (List.mem_of_getElem? (i := 56) (by decide +kernel)))) hO
  · exact va_Zqof (hts (.laysStatic "jdk/internal/util/Preconditions" "SIOOBE_FORMATTER" "Ljava/util/function/BiFunction;") (rt_pc_in 4 _ (List.mem_of_getElem? (i := 120) (by decide +kernel)))) (hts (.initialized "jdk/internal/util/Preconditions") (rt_pc_in 1 _ (List.mem_of_getElem? (i := 15) (by decide +kernel)))) (hs (.isRef (.static "jdk/internal/util/Preconditions" "SIOOBE_FORMATTER" "Ljava/util/function/BiFunction;")) (by decide +kernel)) hO
  · exact vk_R.of (A := #[Value.ref b]) (hts (.stringRef RX5 141 "far") (rt_pc_in 4 _ (List.mem_of_getElem? (i := 85) (by decide +kernel)))) (hev 0 (by decide))
set_option maxRecDepth 100000 in
theorem law_S6 {p : Program} {s : State} {m : MethodId} {meth : Method} {c : Code} {b L : Nat} {xs : Nat → Int32} (C0 : lw_At p s m meth c b L xs) : ∃ q v : Nat, rt_Str q v 4 (fun j => ([116, 97, 107, 101] : List Int32).getD j 0) (fun q : Nat => s.heap.size ≤ q) s s.heap ∧ vk_R RX5 143 "take" q s := by
  obtain ⟨hx, hb, hr, hml, hown, hts, hX, hbl, hlocks, hgv⟩ := id C0
  have hs := flat_of_before _ hgv
  have hO : ∀ a : Nat, a < s.heap.size → ¬ (fun q : Nat => s.heap.size ≤ q) a := fun a h h2 => Nat.not_le.mpr h h2
  have hall : ∀ j : Nat, j < 4 → (Cond.eq (.elem (.field (.string RX5 143) "java/lang/String" "value" "[B") (.int (Int32.ofNat j))) (.int (([116, 97, 107, 101] : List Int32).getD j 0))).before #[Value.ref b] s = true := by
    intro j hj
    have h1 : (List.range 4).all (fun j => decide ((flatC (Jvm.Cond.and given_1 narrow_1))[126 + j]? = some (Cond.eq (.elem (.field (.string RX5 143) "java/lang/String" "value" "[B") (.int (Int32.ofNat j))) (.int (([116, 97, 107, 101] : List Int32).getD j 0))))) = true := by decide +kernel
    exact hs _ (List.mem_of_getElem? (of_decide_eq_true (List.all_eq_true.mp h1 j (List.mem_range.mpr hj))))
  have h01 : ∀ i : Nat, i < 1 → i = 0 := fun i h => by omega
  obtain ⟨adK, adV, hV, hev⟩ := vk_Sof (args := #[Value.ref b]) (s := s) (N := 1) (tm := fun _ => (.string RX5 143)) (len := [4]) (byt := [[116, 97, 107, 101]]) (A := (fun q : Nat => s.heap.size ≤ q)) (fun i hi => by rw [h01 i hi]; decide) (fun i hi => hs (.exactly (.string RX5 143) "java/lang/String") (List.mem_of_getElem? (i := 122) (by decide +kernel))) (fun i hi => hs (.eq (.field (.string RX5 143) "java/lang/String" "coder" "B") (.int 0)) (List.mem_of_getElem? (i := 123) (by decide +kernel))) (fun i hi => hs (.arrayOf (.field (.string RX5 143) "java/lang/String" "value" "[B") .byte) (List.mem_of_getElem? (i := 124) (by decide +kernel))) (fun i hi => by rw [h01 i hi]; exact hs (.eq (.length (.field (.string RX5 143) "java/lang/String" "value" "[B")) (.int 4)) (List.mem_of_getElem? (i := 125) (by decide +kernel))) (fun i hi j hj => by rw [h01 i hi] at hj ⊢; exact hall j hj) (fun i j hi hj hne => absurd ((h01 i hi).trans (h01 j hj).symm) hne) hO
  obtain ⟨h1, h2, h3, h4⟩ := hV.1 0 (by decide)
  refine ⟨adK 0, adV 0, ⟨h1, h2, h3, h4, ?_, ?_⟩, ?_⟩
  · exact va_Zof (hts (.laysStatic "java/lang/String" "COMPACT_STRINGS" "Z") (rt_pc_in 4 _ (List.mem_of_getElem? (i := 104) (by decide +kernel)))) (hts (.initialized "java/lang/String") (rt_pc_in 1 _ (List.mem_of_getElem? (i := 13) (by decide +kernel)))) (va_eqi (hs (.eq (.static "java/lang/String" "COMPACT_STRINGS" "Z") (.int 1)) (List.mem_of_getElem? (i := 56) (by decide +kernel)))) hO
  · exact va_Zqof (hts (.laysStatic "jdk/internal/util/Preconditions" "SIOOBE_FORMATTER" "Ljava/util/function/BiFunction;") (rt_pc_in 4 _ (List.mem_of_getElem? (i := 120) (by decide +kernel)))) (hts (.initialized "jdk/internal/util/Preconditions") (rt_pc_in 1 _ (List.mem_of_getElem? (i := 15) (by decide +kernel)))) (hs (.isRef (.static "jdk/internal/util/Preconditions" "SIOOBE_FORMATTER" "Ljava/util/function/BiFunction;")) (by decide +kernel)) hO
  · exact vk_R.of (A := #[Value.ref b]) (hts (.stringRef RX5 143 "take") (rt_pc_in 4 _ (List.mem_of_getElem? (i := 86) (by decide +kernel)))) (hev 0 (by decide))
set_option maxRecDepth 100000 in
theorem law_S7 {p : Program} {s : State} {m : MethodId} {meth : Method} {c : Code} {b L : Nat} {xs : Nat → Int32} (C0 : lw_At p s m meth c b L xs) : ∃ q v : Nat, rt_Str q v 2 (fun j => ([103, 111] : List Int32).getD j 0) (fun q : Nat => s.heap.size ≤ q) s s.heap ∧ vk_R RX5 145 "go" q s := by
  obtain ⟨hx, hb, hr, hml, hown, hts, hX, hbl, hlocks, hgv⟩ := id C0
  have hs := flat_of_before _ hgv
  have hO : ∀ a : Nat, a < s.heap.size → ¬ (fun q : Nat => s.heap.size ≤ q) a := fun a h h2 => Nat.not_le.mpr h h2
  have hall : ∀ j : Nat, j < 2 → (Cond.eq (.elem (.field (.string RX5 145) "java/lang/String" "value" "[B") (.int (Int32.ofNat j))) (.int (([103, 111] : List Int32).getD j 0))).before #[Value.ref b] s = true := by
    intro j hj
    have h1 : (List.range 2).all (fun j => decide ((flatC (Jvm.Cond.and given_1 narrow_1))[134 + j]? = some (Cond.eq (.elem (.field (.string RX5 145) "java/lang/String" "value" "[B") (.int (Int32.ofNat j))) (.int (([103, 111] : List Int32).getD j 0))))) = true := by decide +kernel
    exact hs _ (List.mem_of_getElem? (of_decide_eq_true (List.all_eq_true.mp h1 j (List.mem_range.mpr hj))))
  have h01 : ∀ i : Nat, i < 1 → i = 0 := fun i h => by omega
  obtain ⟨adK, adV, hV, hev⟩ := vk_Sof (args := #[Value.ref b]) (s := s) (N := 1) (tm := fun _ => (.string RX5 145)) (len := [2]) (byt := [[103, 111]]) (A := (fun q : Nat => s.heap.size ≤ q)) (fun i hi => by rw [h01 i hi]; decide) (fun i hi => hs (.exactly (.string RX5 145) "java/lang/String") (List.mem_of_getElem? (i := 130) (by decide +kernel))) (fun i hi => hs (.eq (.field (.string RX5 145) "java/lang/String" "coder" "B") (.int 0)) (List.mem_of_getElem? (i := 131) (by decide +kernel))) (fun i hi => hs (.arrayOf (.field (.string RX5 145) "java/lang/String" "value" "[B") .byte) (List.mem_of_getElem? (i := 132) (by decide +kernel))) (fun i hi => by rw [h01 i hi]; exact hs (.eq (.length (.field (.string RX5 145) "java/lang/String" "value" "[B")) (.int 2)) (List.mem_of_getElem? (i := 133) (by decide +kernel))) (fun i hi j hj => by rw [h01 i hi] at hj ⊢; exact hall j hj) (fun i j hi hj hne => absurd ((h01 i hi).trans (h01 j hj).symm) hne) hO
  obtain ⟨h1, h2, h3, h4⟩ := hV.1 0 (by decide)
  refine ⟨adK 0, adV 0, ⟨h1, h2, h3, h4, ?_, ?_⟩, ?_⟩
  · exact va_Zof (hts (.laysStatic "java/lang/String" "COMPACT_STRINGS" "Z") (rt_pc_in 4 _ (List.mem_of_getElem? (i := 104) (by decide +kernel)))) (hts (.initialized "java/lang/String") (rt_pc_in 1 _ (List.mem_of_getElem? (i := 13) (by decide +kernel)))) (va_eqi (hs (.eq (.static "java/lang/String" "COMPACT_STRINGS" "Z") (.int 1)) (List.mem_of_getElem? (i := 56) (by decide +kernel)))) hO
  · exact va_Zqof (hts (.laysStatic "jdk/internal/util/Preconditions" "SIOOBE_FORMATTER" "Ljava/util/function/BiFunction;") (rt_pc_in 4 _ (List.mem_of_getElem? (i := 120) (by decide +kernel)))) (hts (.initialized "jdk/internal/util/Preconditions") (rt_pc_in 1 _ (List.mem_of_getElem? (i := 15) (by decide +kernel)))) (hs (.isRef (.static "jdk/internal/util/Preconditions" "SIOOBE_FORMATTER" "Ljava/util/function/BiFunction;")) (by decide +kernel)) hO
  · exact vk_R.of (A := #[Value.ref b]) (hts (.stringRef RX5 145 "go") (rt_pc_in 4 _ (List.mem_of_getElem? (i := 87) (by decide +kernel)))) (hev 0 (by decide))
set_option maxRecDepth 100000 in
theorem law_S8 {p : Program} {s : State} {m : MethodId} {meth : Method} {c : Code} {b L : Nat} {xs : Nat → Int32} (C0 : lw_At p s m meth c b L xs) : ∃ q v : Nat, rt_Str q v 2 (fun j => ([111, 114] : List Int32).getD j 0) (fun q : Nat => s.heap.size ≤ q) s s.heap ∧ vk_R RX5 147 "or" q s := by
  obtain ⟨hx, hb, hr, hml, hown, hts, hX, hbl, hlocks, hgv⟩ := id C0
  have hs := flat_of_before _ hgv
  have hO : ∀ a : Nat, a < s.heap.size → ¬ (fun q : Nat => s.heap.size ≤ q) a := fun a h h2 => Nat.not_le.mpr h h2
  have hall : ∀ j : Nat, j < 2 → (Cond.eq (.elem (.field (.string RX5 147) "java/lang/String" "value" "[B") (.int (Int32.ofNat j))) (.int (([111, 114] : List Int32).getD j 0))).before #[Value.ref b] s = true := by
    intro j hj
    have h1 : (List.range 2).all (fun j => decide ((flatC (Jvm.Cond.and given_1 narrow_1))[140 + j]? = some (Cond.eq (.elem (.field (.string RX5 147) "java/lang/String" "value" "[B") (.int (Int32.ofNat j))) (.int (([111, 114] : List Int32).getD j 0))))) = true := by decide +kernel
    exact hs _ (List.mem_of_getElem? (of_decide_eq_true (List.all_eq_true.mp h1 j (List.mem_range.mpr hj))))
  have h01 : ∀ i : Nat, i < 1 → i = 0 := fun i h => by omega
  obtain ⟨adK, adV, hV, hev⟩ := vk_Sof (args := #[Value.ref b]) (s := s) (N := 1) (tm := fun _ => (.string RX5 147)) (len := [2]) (byt := [[111, 114]]) (A := (fun q : Nat => s.heap.size ≤ q)) (fun i hi => by rw [h01 i hi]; decide) (fun i hi => hs (.exactly (.string RX5 147) "java/lang/String") (List.mem_of_getElem? (i := 136) (by decide +kernel))) (fun i hi => hs (.eq (.field (.string RX5 147) "java/lang/String" "coder" "B") (.int 0)) (List.mem_of_getElem? (i := 137) (by decide +kernel))) (fun i hi => hs (.arrayOf (.field (.string RX5 147) "java/lang/String" "value" "[B") .byte) (List.mem_of_getElem? (i := 138) (by decide +kernel))) (fun i hi => by rw [h01 i hi]; exact hs (.eq (.length (.field (.string RX5 147) "java/lang/String" "value" "[B")) (.int 2)) (List.mem_of_getElem? (i := 139) (by decide +kernel))) (fun i hi j hj => by rw [h01 i hi] at hj ⊢; exact hall j hj) (fun i j hi hj hne => absurd ((h01 i hi).trans (h01 j hj).symm) hne) hO
  obtain ⟨h1, h2, h3, h4⟩ := hV.1 0 (by decide)
  refine ⟨adK 0, adV 0, ⟨h1, h2, h3, h4, ?_, ?_⟩, ?_⟩
  · exact va_Zof (hts (.laysStatic "java/lang/String" "COMPACT_STRINGS" "Z") (rt_pc_in 4 _ (List.mem_of_getElem? (i := 104) (by decide +kernel)))) (hts (.initialized "java/lang/String") (rt_pc_in 1 _ (List.mem_of_getElem? (i := 13) (by decide +kernel)))) (va_eqi (hs (.eq (.static "java/lang/String" "COMPACT_STRINGS" "Z") (.int 1)) (List.mem_of_getElem? (i := 56) (by decide +kernel)))) hO
  · exact va_Zqof (hts (.laysStatic "jdk/internal/util/Preconditions" "SIOOBE_FORMATTER" "Ljava/util/function/BiFunction;") (rt_pc_in 4 _ (List.mem_of_getElem? (i := 120) (by decide +kernel)))) (hts (.initialized "jdk/internal/util/Preconditions") (rt_pc_in 1 _ (List.mem_of_getElem? (i := 15) (by decide +kernel)))) (hs (.isRef (.static "jdk/internal/util/Preconditions" "SIOOBE_FORMATTER" "Ljava/util/function/BiFunction;")) (by decide +kernel)) hO
  · exact vk_R.of (A := #[Value.ref b]) (hts (.stringRef RX5 147 "or") (rt_pc_in 4 _ (List.mem_of_getElem? (i := 88) (by decide +kernel)))) (hev 0 (by decide))
set_option maxRecDepth 100000 in
theorem law_S9 {p : Program} {s : State} {m : MethodId} {meth : Method} {c : Code} {b L : Nat} {xs : Nat → Int32} (C0 : lw_At p s m meth c b L xs) : ∃ q v : Nat, rt_Str q v 3 (fun j => ([97, 110, 100] : List Int32).getD j 0) (fun q : Nat => s.heap.size ≤ q) s s.heap ∧ vk_R RX5 149 "and" q s := by
  obtain ⟨hx, hb, hr, hml, hown, hts, hX, hbl, hlocks, hgv⟩ := id C0
  have hs := flat_of_before _ hgv
  have hO : ∀ a : Nat, a < s.heap.size → ¬ (fun q : Nat => s.heap.size ≤ q) a := fun a h h2 => Nat.not_le.mpr h h2
  have hall : ∀ j : Nat, j < 3 → (Cond.eq (.elem (.field (.string RX5 149) "java/lang/String" "value" "[B") (.int (Int32.ofNat j))) (.int (([97, 110, 100] : List Int32).getD j 0))).before #[Value.ref b] s = true := by
    intro j hj
    have h1 : (List.range 3).all (fun j => decide ((flatC (Jvm.Cond.and given_1 narrow_1))[146 + j]? = some (Cond.eq (.elem (.field (.string RX5 149) "java/lang/String" "value" "[B") (.int (Int32.ofNat j))) (.int (([97, 110, 100] : List Int32).getD j 0))))) = true := by decide +kernel
    exact hs _ (List.mem_of_getElem? (of_decide_eq_true (List.all_eq_true.mp h1 j (List.mem_range.mpr hj))))
  have h01 : ∀ i : Nat, i < 1 → i = 0 := fun i h => by omega
  obtain ⟨adK, adV, hV, hev⟩ := vk_Sof (args := #[Value.ref b]) (s := s) (N := 1) (tm := fun _ => (.string RX5 149)) (len := [3]) (byt := [[97, 110, 100]]) (A := (fun q : Nat => s.heap.size ≤ q)) (fun i hi => by rw [h01 i hi]; decide) (fun i hi => hs (.exactly (.string RX5 149) "java/lang/String") (List.mem_of_getElem? (i := 142) (by decide +kernel))) (fun i hi => hs (.eq (.field (.string RX5 149) "java/lang/String" "coder" "B") (.int 0)) (List.mem_of_getElem? (i := 143) (by decide +kernel))) (fun i hi => hs (.arrayOf (.field (.string RX5 149) "java/lang/String" "value" "[B") .byte) (List.mem_of_getElem? (i := 144) (by decide +kernel))) (fun i hi => by rw [h01 i hi]; exact hs (.eq (.length (.field (.string RX5 149) "java/lang/String" "value" "[B")) (.int 3)) (List.mem_of_getElem? (i := 145) (by decide +kernel))) (fun i hi j hj => by rw [h01 i hi] at hj ⊢; exact hall j hj) (fun i j hi hj hne => absurd ((h01 i hi).trans (h01 j hj).symm) hne) hO
  obtain ⟨h1, h2, h3, h4⟩ := hV.1 0 (by decide)
  refine ⟨adK 0, adV 0, ⟨h1, h2, h3, h4, ?_, ?_⟩, ?_⟩
  · exact va_Zof (hts (.laysStatic "java/lang/String" "COMPACT_STRINGS" "Z") (rt_pc_in 4 _ (List.mem_of_getElem? (i := 104) (by decide +kernel)))) (hts (.initialized "java/lang/String") (rt_pc_in 1 _ (List.mem_of_getElem? (i := 13) (by decide +kernel)))) (va_eqi (hs (.eq (.static "java/lang/String" "COMPACT_STRINGS" "Z") (.int 1)) (List.mem_of_getElem? (i := 56) (by decide +kernel)))) hO
  · exact va_Zqof (hts (.laysStatic "jdk/internal/util/Preconditions" "SIOOBE_FORMATTER" "Ljava/util/function/BiFunction;") (rt_pc_in 4 _ (List.mem_of_getElem? (i := 120) (by decide +kernel)))) (hts (.initialized "jdk/internal/util/Preconditions") (rt_pc_in 1 _ (List.mem_of_getElem? (i := 15) (by decide +kernel)))) (hs (.isRef (.static "jdk/internal/util/Preconditions" "SIOOBE_FORMATTER" "Ljava/util/function/BiFunction;")) (by decide +kernel)) hO
  · exact vk_R.of (A := #[Value.ref b]) (hts (.stringRef RX5 149 "and") (rt_pc_in 4 _ (List.mem_of_getElem? (i := 89) (by decide +kernel)))) (hev 0 (by decide))
set_option maxRecDepth 100000 in
theorem law_S10 {p : Program} {s : State} {m : MethodId} {meth : Method} {c : Code} {b L : Nat} {xs : Nat → Int32} (C0 : lw_At p s m meth c b L xs) : ∃ q v : Nat, rt_Str q v 3 (fun j => ([110, 111, 116] : List Int32).getD j 0) (fun q : Nat => s.heap.size ≤ q) s s.heap ∧ vk_R RX5 151 "not" q s := by
  obtain ⟨hx, hb, hr, hml, hown, hts, hX, hbl, hlocks, hgv⟩ := id C0
  have hs := flat_of_before _ hgv
  have hO : ∀ a : Nat, a < s.heap.size → ¬ (fun q : Nat => s.heap.size ≤ q) a := fun a h h2 => Nat.not_le.mpr h h2
  have hall : ∀ j : Nat, j < 3 → (Cond.eq (.elem (.field (.string RX5 151) "java/lang/String" "value" "[B") (.int (Int32.ofNat j))) (.int (([110, 111, 116] : List Int32).getD j 0))).before #[Value.ref b] s = true := by
    intro j hj
    have h1 : (List.range 3).all (fun j => decide ((flatC (Jvm.Cond.and given_1 narrow_1))[153 + j]? = some (Cond.eq (.elem (.field (.string RX5 151) "java/lang/String" "value" "[B") (.int (Int32.ofNat j))) (.int (([110, 111, 116] : List Int32).getD j 0))))) = true := by decide +kernel
    exact hs _ (List.mem_of_getElem? (of_decide_eq_true (List.all_eq_true.mp h1 j (List.mem_range.mpr hj))))
  have h01 : ∀ i : Nat, i < 1 → i = 0 := fun i h => by omega
  obtain ⟨adK, adV, hV, hev⟩ := vk_Sof (args := #[Value.ref b]) (s := s) (N := 1) (tm := fun _ => (.string RX5 151)) (len := [3]) (byt := [[110, 111, 116]]) (A := (fun q : Nat => s.heap.size ≤ q)) (fun i hi => by rw [h01 i hi]; decide) (fun i hi => hs (.exactly (.string RX5 151) "java/lang/String") (List.mem_of_getElem? (i := 149) (by decide +kernel))) (fun i hi => hs (.eq (.field (.string RX5 151) "java/lang/String" "coder" "B") (.int 0)) (List.mem_of_getElem? (i := 150) (by decide +kernel))) (fun i hi => hs (.arrayOf (.field (.string RX5 151) "java/lang/String" "value" "[B") .byte) (List.mem_of_getElem? (i := 151) (by decide +kernel))) (fun i hi => by rw [h01 i hi]; exact hs (.eq (.length (.field (.string RX5 151) "java/lang/String" "value" "[B")) (.int 3)) (List.mem_of_getElem? (i := 152) (by decide +kernel))) (fun i hi j hj => by rw [h01 i hi] at hj ⊢; exact hall j hj) (fun i j hi hj hne => absurd ((h01 i hi).trans (h01 j hj).symm) hne) hO
  obtain ⟨h1, h2, h3, h4⟩ := hV.1 0 (by decide)
  refine ⟨adK 0, adV 0, ⟨h1, h2, h3, h4, ?_, ?_⟩, ?_⟩
  · exact va_Zof (hts (.laysStatic "java/lang/String" "COMPACT_STRINGS" "Z") (rt_pc_in 4 _ (List.mem_of_getElem? (i := 104) (by decide +kernel)))) (hts (.initialized "java/lang/String") (rt_pc_in 1 _ (List.mem_of_getElem? (i := 13) (by decide +kernel)))) (va_eqi (hs (.eq (.static "java/lang/String" "COMPACT_STRINGS" "Z") (.int 1)) (List.mem_of_getElem? (i := 56) (by decide +kernel)))) hO
  · exact va_Zqof (hts (.laysStatic "jdk/internal/util/Preconditions" "SIOOBE_FORMATTER" "Ljava/util/function/BiFunction;") (rt_pc_in 4 _ (List.mem_of_getElem? (i := 120) (by decide +kernel)))) (hts (.initialized "jdk/internal/util/Preconditions") (rt_pc_in 1 _ (List.mem_of_getElem? (i := 15) (by decide +kernel)))) (hs (.isRef (.static "jdk/internal/util/Preconditions" "SIOOBE_FORMATTER" "Ljava/util/function/BiFunction;")) (by decide +kernel)) hO
  · exact vk_R.of (A := #[Value.ref b]) (hts (.stringRef RX5 151 "not") (rt_pc_in 4 _ (List.mem_of_getElem? (i := 90) (by decide +kernel)))) (hev 0 (by decide))
set_option maxRecDepth 100000 in
theorem law_S11 {p : Program} {s : State} {m : MethodId} {meth : Method} {c : Code} {b L : Nat} {xs : Nat → Int32} (C0 : lw_At p s m meth c b L xs) : ∃ q v : Nat, rt_Str q v 46 (fun j => ([116, 97, 107, 101, 32, 104, 117, 114, 116, 32, 42, 32, 50, 32, 45, 32, 115, 116, 114, 101, 110, 103, 116, 104, 32, 59, 32, 103, 111, 32, 102, 97, 114, 32, 42, 32, 54, 32, 60, 32, 102, 117, 101, 108, 32, 59] : List Int32).getD j 0) (fun q : Nat => s.heap.size ≤ q) s s.heap ∧ vk_R RX12 170 "take hurt * 2 - strength ; go far * 6 < fuel ;" q s := by
  obtain ⟨hx, hb, hr, hml, hown, hts, hX, hbl, hlocks, hgv⟩ := id C0
  have hs := flat_of_before _ hgv
  have hO : ∀ a : Nat, a < s.heap.size → ¬ (fun q : Nat => s.heap.size ≤ q) a := fun a h h2 => Nat.not_le.mpr h h2
  have hall : ∀ j : Nat, j < 46 → (Cond.eq (.elem (.field (.string RX12 170) "java/lang/String" "value" "[B") (.int (Int32.ofNat j))) (.int (([116, 97, 107, 101, 32, 104, 117, 114, 116, 32, 42, 32, 50, 32, 45, 32, 115, 116, 114, 101, 110, 103, 116, 104, 32, 59, 32, 103, 111, 32, 102, 97, 114, 32, 42, 32, 54, 32, 60, 32, 102, 117, 101, 108, 32, 59] : List Int32).getD j 0))).before #[Value.ref b] s = true := by
    intro j hj
    have h1 : (List.range 46).all (fun j => decide ((flatC (Jvm.Cond.and given_1 narrow_1))[160 + j]? = some (Cond.eq (.elem (.field (.string RX12 170) "java/lang/String" "value" "[B") (.int (Int32.ofNat j))) (.int (([116, 97, 107, 101, 32, 104, 117, 114, 116, 32, 42, 32, 50, 32, 45, 32, 115, 116, 114, 101, 110, 103, 116, 104, 32, 59, 32, 103, 111, 32, 102, 97, 114, 32, 42, 32, 54, 32, 60, 32, 102, 117, 101, 108, 32, 59] : List Int32).getD j 0))))) = true := by decide +kernel
    exact hs _ (List.mem_of_getElem? (of_decide_eq_true (List.all_eq_true.mp h1 j (List.mem_range.mpr hj))))
  have h01 : ∀ i : Nat, i < 1 → i = 0 := fun i h => by omega
  obtain ⟨adK, adV, hV, hev⟩ := vk_Sof (args := #[Value.ref b]) (s := s) (N := 1) (tm := fun _ => (.string RX12 170)) (len := [46]) (byt := [[116, 97, 107, 101, 32, 104, 117, 114, 116, 32, 42, 32, 50, 32, 45, 32, 115, 116, 114, 101, 110, 103, 116, 104, 32, 59, 32, 103, 111, 32, 102, 97, 114, 32, 42, 32, 54, 32, 60, 32, 102, 117, 101, 108, 32, 59]]) (A := (fun q : Nat => s.heap.size ≤ q)) (fun i hi => by rw [h01 i hi]; decide) (fun i hi => hs (.exactly (.string RX12 170) "java/lang/String") (List.mem_of_getElem? (i := 156) (by decide +kernel))) (fun i hi => hs (.eq (.field (.string RX12 170) "java/lang/String" "coder" "B") (.int 0)) (List.mem_of_getElem? (i := 157) (by decide +kernel))) (fun i hi => hs (.arrayOf (.field (.string RX12 170) "java/lang/String" "value" "[B") .byte) (List.mem_of_getElem? (i := 158) (by decide +kernel))) (fun i hi => by rw [h01 i hi]; exact hs (.eq (.length (.field (.string RX12 170) "java/lang/String" "value" "[B")) (.int 46)) (List.mem_of_getElem? (i := 159) (by decide +kernel))) (fun i hi j hj => by rw [h01 i hi] at hj ⊢; exact hall j hj) (fun i j hi hj hne => absurd ((h01 i hi).trans (h01 j hj).symm) hne) hO
  obtain ⟨h1, h2, h3, h4⟩ := hV.1 0 (by decide)
  refine ⟨adK 0, adV 0, ⟨h1, h2, h3, h4, ?_, ?_⟩, ?_⟩
  · exact va_Zof (hts (.laysStatic "java/lang/String" "COMPACT_STRINGS" "Z") (rt_pc_in 4 _ (List.mem_of_getElem? (i := 104) (by decide +kernel)))) (hts (.initialized "java/lang/String") (rt_pc_in 1 _ (List.mem_of_getElem? (i := 13) (by decide +kernel)))) (va_eqi (hs (.eq (.static "java/lang/String" "COMPACT_STRINGS" "Z") (.int 1)) (List.mem_of_getElem? (i := 56) (by decide +kernel)))) hO
  · exact va_Zqof (hts (.laysStatic "jdk/internal/util/Preconditions" "SIOOBE_FORMATTER" "Ljava/util/function/BiFunction;") (rt_pc_in 4 _ (List.mem_of_getElem? (i := 120) (by decide +kernel)))) (hts (.initialized "jdk/internal/util/Preconditions") (rt_pc_in 1 _ (List.mem_of_getElem? (i := 15) (by decide +kernel)))) (hs (.isRef (.static "jdk/internal/util/Preconditions" "SIOOBE_FORMATTER" "Ljava/util/function/BiFunction;")) (by decide +kernel)) hO
  · exact vk_R.of (A := #[Value.ref b]) (hts (.stringRef RX12 170 "take hurt * 2 - strength ; go far * 6 < fuel ;") (rt_pc_in 5 _ (List.mem_of_getElem? (i := 117) (by decide +kernel)))) (hev 0 (by decide))
set_option maxRecDepth 100000 in
theorem law_S12 {p : Program} {s : State} {m : MethodId} {meth : Method} {c : Code} {b L : Nat} {xs : Nat → Int32} (C0 : lw_At p s m meth c b L xs) : ∃ q v : Nat, rt_Str q v 2 (fun j => ([111, 114] : List Int32).getD j 0) (fun q : Nat => s.heap.size ≤ q) s s.heap ∧ vk_R RX12 362 "or" q s := by
  obtain ⟨hx, hb, hr, hml, hown, hts, hX, hbl, hlocks, hgv⟩ := id C0
  have hs := flat_of_before _ hgv
  have hO : ∀ a : Nat, a < s.heap.size → ¬ (fun q : Nat => s.heap.size ≤ q) a := fun a h h2 => Nat.not_le.mpr h h2
  have hall : ∀ j : Nat, j < 2 → (Cond.eq (.elem (.field (.string RX12 362) "java/lang/String" "value" "[B") (.int (Int32.ofNat j))) (.int (([111, 114] : List Int32).getD j 0))).before #[Value.ref b] s = true := by
    intro j hj
    have h1 : (List.range 2).all (fun j => decide ((flatC (Jvm.Cond.and given_1 narrow_1))[328 + j]? = some (Cond.eq (.elem (.field (.string RX12 362) "java/lang/String" "value" "[B") (.int (Int32.ofNat j))) (.int (([111, 114] : List Int32).getD j 0))))) = true := by decide +kernel
    exact hs _ (List.mem_of_getElem? (of_decide_eq_true (List.all_eq_true.mp h1 j (List.mem_range.mpr hj))))
  have h01 : ∀ i : Nat, i < 1 → i = 0 := fun i h => by omega
  obtain ⟨adK, adV, hV, hev⟩ := vk_Sof (args := #[Value.ref b]) (s := s) (N := 1) (tm := fun _ => (.string RX12 362)) (len := [2]) (byt := [[111, 114]]) (A := (fun q : Nat => s.heap.size ≤ q)) (fun i hi => by rw [h01 i hi]; decide) (fun i hi => hs (.exactly (.string RX12 362) "java/lang/String") (List.mem_of_getElem? (i := 324) (by decide +kernel))) (fun i hi => hs (.eq (.field (.string RX12 362) "java/lang/String" "coder" "B") (.int 0)) (List.mem_of_getElem? (i := 325) (by decide +kernel))) (fun i hi => hs (.arrayOf (.field (.string RX12 362) "java/lang/String" "value" "[B") .byte) (List.mem_of_getElem? (i := 326) (by decide +kernel))) (fun i hi => by rw [h01 i hi]; exact hs (.eq (.length (.field (.string RX12 362) "java/lang/String" "value" "[B")) (.int 2)) (List.mem_of_getElem? (i := 327) (by decide +kernel))) (fun i hi j hj => by rw [h01 i hi] at hj ⊢; exact hall j hj) (fun i j hi hj hne => absurd ((h01 i hi).trans (h01 j hj).symm) hne) hO
  obtain ⟨h1, h2, h3, h4⟩ := hV.1 0 (by decide)
  refine ⟨adK 0, adV 0, ⟨h1, h2, h3, h4, ?_, ?_⟩, ?_⟩
  · exact va_Zof (hts (.laysStatic "java/lang/String" "COMPACT_STRINGS" "Z") (rt_pc_in 4 _ (List.mem_of_getElem? (i := 104) (by decide +kernel)))) (hts (.initialized "java/lang/String") (rt_pc_in 1 _ (List.mem_of_getElem? (i := 13) (by decide +kernel)))) (va_eqi (hs (.eq (.static "java/lang/String" "COMPACT_STRINGS" "Z") (.int 1)) (List.mem_of_getElem? (i := 56) (by decide +kernel)))) hO
  · exact va_Zqof (hts (.laysStatic "jdk/internal/util/Preconditions" "SIOOBE_FORMATTER" "Ljava/util/function/BiFunction;") (rt_pc_in 4 _ (List.mem_of_getElem? (i := 120) (by decide +kernel)))) (hts (.initialized "jdk/internal/util/Preconditions") (rt_pc_in 1 _ (List.mem_of_getElem? (i := 15) (by decide +kernel)))) (hs (.isRef (.static "jdk/internal/util/Preconditions" "SIOOBE_FORMATTER" "Ljava/util/function/BiFunction;")) (by decide +kernel)) hO
  · exact vk_R.of (A := #[Value.ref b]) (hts (.stringRef RX12 362 "or") (rt_pc_in 7 _ (List.mem_of_getElem? (i := 143) (by decide +kernel)))) (hev 0 (by decide))
set_option maxRecDepth 100000 in
theorem law_S13 {p : Program} {s : State} {m : MethodId} {meth : Method} {c : Code} {b L : Nat} {xs : Nat → Int32} (C0 : lw_At p s m meth c b L xs) : ∃ q v : Nat, rt_Str q v 3 (fun j => ([97, 110, 100] : List Int32).getD j 0) (fun q : Nat => s.heap.size ≤ q) s s.heap ∧ vk_R RX12 370 "and" q s := by
  obtain ⟨hx, hb, hr, hml, hown, hts, hX, hbl, hlocks, hgv⟩ := id C0
  have hs := flat_of_before _ hgv
  have hO : ∀ a : Nat, a < s.heap.size → ¬ (fun q : Nat => s.heap.size ≤ q) a := fun a h h2 => Nat.not_le.mpr h h2
  have hall : ∀ j : Nat, j < 3 → (Cond.eq (.elem (.field (.string RX12 370) "java/lang/String" "value" "[B") (.int (Int32.ofNat j))) (.int (([97, 110, 100] : List Int32).getD j 0))).before #[Value.ref b] s = true := by
    intro j hj
    have h1 : (List.range 3).all (fun j => decide ((flatC (Jvm.Cond.and given_1 narrow_1))[320 + j]? = some (Cond.eq (.elem (.field (.string RX12 370) "java/lang/String" "value" "[B") (.int (Int32.ofNat j))) (.int (([97, 110, 100] : List Int32).getD j 0))))) = true := by decide +kernel
    exact hs _ (List.mem_of_getElem? (of_decide_eq_true (List.all_eq_true.mp h1 j (List.mem_range.mpr hj))))
  have h01 : ∀ i : Nat, i < 1 → i = 0 := fun i h => by omega
  obtain ⟨adK, adV, hV, hev⟩ := vk_Sof (args := #[Value.ref b]) (s := s) (N := 1) (tm := fun _ => (.string RX12 370)) (len := [3]) (byt := [[97, 110, 100]]) (A := (fun q : Nat => s.heap.size ≤ q)) (fun i hi => by rw [h01 i hi]; decide) (fun i hi => hs (.exactly (.string RX12 370) "java/lang/String") (List.mem_of_getElem? (i := 316) (by decide +kernel))) (fun i hi => hs (.eq (.field (.string RX12 370) "java/lang/String" "coder" "B") (.int 0)) (List.mem_of_getElem? (i := 317) (by decide +kernel))) (fun i hi => hs (.arrayOf (.field (.string RX12 370) "java/lang/String" "value" "[B") .byte) (List.mem_of_getElem? (i := 318) (by decide +kernel))) (fun i hi => by rw [h01 i hi]; exact hs (.eq (.length (.field (.string RX12 370) "java/lang/String" "value" "[B")) (.int 3)) (List.mem_of_getElem? (i := 319) (by decide +kernel))) (fun i hi j hj => by rw [h01 i hi] at hj ⊢; exact hall j hj) (fun i j hi hj hne => absurd ((h01 i hi).trans (h01 j hj).symm) hne) hO
  obtain ⟨h1, h2, h3, h4⟩ := hV.1 0 (by decide)
  refine ⟨adK 0, adV 0, ⟨h1, h2, h3, h4, ?_, ?_⟩, ?_⟩
  · exact va_Zof (hts (.laysStatic "java/lang/String" "COMPACT_STRINGS" "Z") (rt_pc_in 4 _ (List.mem_of_getElem? (i := 104) (by decide +kernel)))) (hts (.initialized "java/lang/String") (rt_pc_in 1 _ (List.mem_of_getElem? (i := 13) (by decide +kernel)))) (va_eqi (hs (.eq (.static "java/lang/String" "COMPACT_STRINGS" "Z") (.int 1)) (List.mem_of_getElem? (i := 56) (by decide +kernel)))) hO
  · exact va_Zqof (hts (.laysStatic "jdk/internal/util/Preconditions" "SIOOBE_FORMATTER" "Ljava/util/function/BiFunction;") (rt_pc_in 4 _ (List.mem_of_getElem? (i := 120) (by decide +kernel)))) (hts (.initialized "jdk/internal/util/Preconditions") (rt_pc_in 1 _ (List.mem_of_getElem? (i := 15) (by decide +kernel)))) (hs (.isRef (.static "jdk/internal/util/Preconditions" "SIOOBE_FORMATTER" "Ljava/util/function/BiFunction;")) (by decide +kernel)) hO
  · exact vk_R.of (A := #[Value.ref b]) (hts (.stringRef RX12 370 "and") (rt_pc_in 7 _ (List.mem_of_getElem? (i := 142) (by decide +kernel)))) (hev 0 (by decide))
set_option maxRecDepth 100000 in
theorem law_S14 {p : Program} {s : State} {m : MethodId} {meth : Method} {c : Code} {b L : Nat} {xs : Nat → Int32} (C0 : lw_At p s m meth c b L xs) : ∃ q v : Nat, rt_Str q v 3 (fun j => ([110, 111, 116] : List Int32).getD j 0) (fun q : Nat => s.heap.size ≤ q) s s.heap ∧ vk_R RX12 378 "not" q s := by
  obtain ⟨hx, hb, hr, hml, hown, hts, hX, hbl, hlocks, hgv⟩ := id C0
  have hs := flat_of_before _ hgv
  have hO : ∀ a : Nat, a < s.heap.size → ¬ (fun q : Nat => s.heap.size ≤ q) a := fun a h h2 => Nat.not_le.mpr h h2
  have hall : ∀ j : Nat, j < 3 → (Cond.eq (.elem (.field (.string RX12 378) "java/lang/String" "value" "[B") (.int (Int32.ofNat j))) (.int (([110, 111, 116] : List Int32).getD j 0))).before #[Value.ref b] s = true := by
    intro j hj
    have h1 : (List.range 3).all (fun j => decide ((flatC (Jvm.Cond.and given_1 narrow_1))[219 + j]? = some (Cond.eq (.elem (.field (.string RX12 378) "java/lang/String" "value" "[B") (.int (Int32.ofNat j))) (.int (([110, 111, 116] : List Int32).getD j 0))))) = true := by decide +kernel
    exact hs _ (List.mem_of_getElem? (of_decide_eq_true (List.all_eq_true.mp h1 j (List.mem_range.mpr hj))))
  have h01 : ∀ i : Nat, i < 1 → i = 0 := fun i h => by omega
  obtain ⟨adK, adV, hV, hev⟩ := vk_Sof (args := #[Value.ref b]) (s := s) (N := 1) (tm := fun _ => (.string RX12 378)) (len := [3]) (byt := [[110, 111, 116]]) (A := (fun q : Nat => s.heap.size ≤ q)) (fun i hi => by rw [h01 i hi]; decide) (fun i hi => hs (.exactly (.string RX12 378) "java/lang/String") (List.mem_of_getElem? (i := 215) (by decide +kernel))) (fun i hi => hs (.eq (.field (.string RX12 378) "java/lang/String" "coder" "B") (.int 0)) (List.mem_of_getElem? (i := 216) (by decide +kernel))) (fun i hi => hs (.arrayOf (.field (.string RX12 378) "java/lang/String" "value" "[B") .byte) (List.mem_of_getElem? (i := 217) (by decide +kernel))) (fun i hi => by rw [h01 i hi]; exact hs (.eq (.length (.field (.string RX12 378) "java/lang/String" "value" "[B")) (.int 3)) (List.mem_of_getElem? (i := 218) (by decide +kernel))) (fun i hi j hj => by rw [h01 i hi] at hj ⊢; exact hall j hj) (fun i j hi hj hne => absurd ((h01 i hi).trans (h01 j hj).symm) hne) hO
  obtain ⟨h1, h2, h3, h4⟩ := hV.1 0 (by decide)
  refine ⟨adK 0, adV 0, ⟨h1, h2, h3, h4, ?_, ?_⟩, ?_⟩
  · exact va_Zof (hts (.laysStatic "java/lang/String" "COMPACT_STRINGS" "Z") (rt_pc_in 4 _ (List.mem_of_getElem? (i := 104) (by decide +kernel)))) (hts (.initialized "java/lang/String") (rt_pc_in 1 _ (List.mem_of_getElem? (i := 13) (by decide +kernel)))) (va_eqi (hs (.eq (.static "java/lang/String" "COMPACT_STRINGS" "Z") (.int 1)) (List.mem_of_getElem? (i := 56) (by decide +kernel)))) hO
  · exact va_Zqof (hts (.laysStatic "jdk/internal/util/Preconditions" "SIOOBE_FORMATTER" "Ljava/util/function/BiFunction;") (rt_pc_in 4 _ (List.mem_of_getElem? (i := 120) (by decide +kernel)))) (hts (.initialized "jdk/internal/util/Preconditions") (rt_pc_in 1 _ (List.mem_of_getElem? (i := 15) (by decide +kernel)))) (hs (.isRef (.static "jdk/internal/util/Preconditions" "SIOOBE_FORMATTER" "Ljava/util/function/BiFunction;")) (by decide +kernel)) hO
  · exact vk_R.of (A := #[Value.ref b]) (hts (.stringRef RX12 378 "not") (rt_pc_in 7 _ (List.mem_of_getElem? (i := 108) (by decide +kernel)))) (hev 0 (by decide))
set_option maxRecDepth 100000 in
theorem law_S15 {p : Program} {s : State} {m : MethodId} {meth : Method} {c : Code} {b L : Nat} {xs : Nat → Int32} (C0 : lw_At p s m meth c b L xs) : ∃ q v : Nat, rt_Str q v 1 (fun j => ([60] : List Int32).getD j 0) (fun q : Nat => s.heap.size ≤ q) s s.heap ∧ vk_R RX12 387 "<" q s := by
  obtain ⟨hx, hb, hr, hml, hown, hts, hX, hbl, hlocks, hgv⟩ := id C0
  have hs := flat_of_before _ hgv
  have hO : ∀ a : Nat, a < s.heap.size → ¬ (fun q : Nat => s.heap.size ≤ q) a := fun a h h2 => Nat.not_le.mpr h h2
  have hall : ∀ j : Nat, j < 1 → (Cond.eq (.elem (.field (.string RX12 387) "java/lang/String" "value" "[B") (.int (Int32.ofNat j))) (.int (([60] : List Int32).getD j 0))).before #[Value.ref b] s = true := by
    intro j hj
    have h1 : (List.range 1).all (fun j => decide ((flatC (Jvm.Cond.and given_1 narrow_1))[310 + j]? = some (Cond.eq (.elem (.field (.string RX12 387) "java/lang/String" "value" "[B") (.int (Int32.ofNat j))) (.int (([60] : List Int32).getD j 0))))) = true := by decide +kernel
    exact hs _ (List.mem_of_getElem? (of_decide_eq_true (List.all_eq_true.mp h1 j (List.mem_range.mpr hj))))
  have h01 : ∀ i : Nat, i < 1 → i = 0 := fun i h => by omega
  obtain ⟨adK, adV, hV, hev⟩ := vk_Sof (args := #[Value.ref b]) (s := s) (N := 1) (tm := fun _ => (.string RX12 387)) (len := [1]) (byt := [[60]]) (A := (fun q : Nat => s.heap.size ≤ q)) (fun i hi => by rw [h01 i hi]; decide) (fun i hi => hs (.exactly (.string RX12 387) "java/lang/String") (List.mem_of_getElem? (i := 306) (by decide +kernel))) (fun i hi => hs (.eq (.field (.string RX12 387) "java/lang/String" "coder" "B") (.int 0)) (List.mem_of_getElem? (i := 307) (by decide +kernel))) (fun i hi => hs (.arrayOf (.field (.string RX12 387) "java/lang/String" "value" "[B") .byte) (List.mem_of_getElem? (i := 308) (by decide +kernel))) (fun i hi => by rw [h01 i hi]; exact hs (.eq (.length (.field (.string RX12 387) "java/lang/String" "value" "[B")) (.int 1)) (List.mem_of_getElem? (i := 309) (by decide +kernel))) (fun i hi j hj => by rw [h01 i hi] at hj ⊢; exact hall j hj) (fun i j hi hj hne => absurd ((h01 i hi).trans (h01 j hj).symm) hne) hO
  obtain ⟨h1, h2, h3, h4⟩ := hV.1 0 (by decide)
  refine ⟨adK 0, adV 0, ⟨h1, h2, h3, h4, ?_, ?_⟩, ?_⟩
  · exact va_Zof (hts (.laysStatic "java/lang/String" "COMPACT_STRINGS" "Z") (rt_pc_in 4 _ (List.mem_of_getElem? (i := 104) (by decide +kernel)))) (hts (.initialized "java/lang/String") (rt_pc_in 1 _ (List.mem_of_getElem? (i := 13) (by decide +kernel)))) (va_eqi (hs (.eq (.static "java/lang/String" "COMPACT_STRINGS" "Z") (.int 1)) (List.mem_of_getElem? (i := 56) (by decide +kernel)))) hO
  · exact va_Zqof (hts (.laysStatic "jdk/internal/util/Preconditions" "SIOOBE_FORMATTER" "Ljava/util/function/BiFunction;") (rt_pc_in 4 _ (List.mem_of_getElem? (i := 120) (by decide +kernel)))) (hts (.initialized "jdk/internal/util/Preconditions") (rt_pc_in 1 _ (List.mem_of_getElem? (i := 15) (by decide +kernel)))) (hs (.isRef (.static "jdk/internal/util/Preconditions" "SIOOBE_FORMATTER" "Ljava/util/function/BiFunction;")) (by decide +kernel)) hO
  · exact vk_R.of (A := #[Value.ref b]) (hts (.stringRef RX12 387 "<") (rt_pc_in 7 _ (List.mem_of_getElem? (i := 140) (by decide +kernel)))) (hev 0 (by decide))
set_option maxRecDepth 100000 in
theorem law_S16 {p : Program} {s : State} {m : MethodId} {meth : Method} {c : Code} {b L : Nat} {xs : Nat → Int32} (C0 : lw_At p s m meth c b L xs) : ∃ q v : Nat, rt_Str q v 1 (fun j => ([61] : List Int32).getD j 0) (fun q : Nat => s.heap.size ≤ q) s s.heap ∧ vk_R RX12 389 "=" q s := by
  obtain ⟨hx, hb, hr, hml, hown, hts, hX, hbl, hlocks, hgv⟩ := id C0
  have hs := flat_of_before _ hgv
  have hO : ∀ a : Nat, a < s.heap.size → ¬ (fun q : Nat => s.heap.size ≤ q) a := fun a h h2 => Nat.not_le.mpr h h2
  have hall : ∀ j : Nat, j < 1 → (Cond.eq (.elem (.field (.string RX12 389) "java/lang/String" "value" "[B") (.int (Int32.ofNat j))) (.int (([61] : List Int32).getD j 0))).before #[Value.ref b] s = true := by
    intro j hj
    have h1 : (List.range 1).all (fun j => decide ((flatC (Jvm.Cond.and given_1 narrow_1))[315 + j]? = some (Cond.eq (.elem (.field (.string RX12 389) "java/lang/String" "value" "[B") (.int (Int32.ofNat j))) (.int (([61] : List Int32).getD j 0))))) = true := by decide +kernel
    exact hs _ (List.mem_of_getElem? (of_decide_eq_true (List.all_eq_true.mp h1 j (List.mem_range.mpr hj))))
  have h01 : ∀ i : Nat, i < 1 → i = 0 := fun i h => by omega
  obtain ⟨adK, adV, hV, hev⟩ := vk_Sof (args := #[Value.ref b]) (s := s) (N := 1) (tm := fun _ => (.string RX12 389)) (len := [1]) (byt := [[61]]) (A := (fun q : Nat => s.heap.size ≤ q)) (fun i hi => by rw [h01 i hi]; decide) (fun i hi => hs (.exactly (.string RX12 389) "java/lang/String") (List.mem_of_getElem? (i := 311) (by decide +kernel))) (fun i hi => hs (.eq (.field (.string RX12 389) "java/lang/String" "coder" "B") (.int 0)) (List.mem_of_getElem? (i := 312) (by decide +kernel))) (fun i hi => hs (.arrayOf (.field (.string RX12 389) "java/lang/String" "value" "[B") .byte) (List.mem_of_getElem? (i := 313) (by decide +kernel))) (fun i hi => by rw [h01 i hi]; exact hs (.eq (.length (.field (.string RX12 389) "java/lang/String" "value" "[B")) (.int 1)) (List.mem_of_getElem? (i := 314) (by decide +kernel))) (fun i hi j hj => by rw [h01 i hi] at hj ⊢; exact hall j hj) (fun i j hi hj hne => absurd ((h01 i hi).trans (h01 j hj).symm) hne) hO
  obtain ⟨h1, h2, h3, h4⟩ := hV.1 0 (by decide)
  refine ⟨adK 0, adV 0, ⟨h1, h2, h3, h4, ?_, ?_⟩, ?_⟩
  · exact va_Zof (hts (.laysStatic "java/lang/String" "COMPACT_STRINGS" "Z") (rt_pc_in 4 _ (List.mem_of_getElem? (i := 104) (by decide +kernel)))) (hts (.initialized "java/lang/String") (rt_pc_in 1 _ (List.mem_of_getElem? (i := 13) (by decide +kernel)))) (va_eqi (hs (.eq (.static "java/lang/String" "COMPACT_STRINGS" "Z") (.int 1)) (List.mem_of_getElem? (i := 56) (by decide +kernel)))) hO
  · exact va_Zqof (hts (.laysStatic "jdk/internal/util/Preconditions" "SIOOBE_FORMATTER" "Ljava/util/function/BiFunction;") (rt_pc_in 4 _ (List.mem_of_getElem? (i := 120) (by decide +kernel)))) (hts (.initialized "jdk/internal/util/Preconditions") (rt_pc_in 1 _ (List.mem_of_getElem? (i := 15) (by decide +kernel)))) (hs (.isRef (.static "jdk/internal/util/Preconditions" "SIOOBE_FORMATTER" "Ljava/util/function/BiFunction;")) (by decide +kernel)) hO
  · exact vk_R.of (A := #[Value.ref b]) (hts (.stringRef RX12 389 "=") (rt_pc_in 7 _ (List.mem_of_getElem? (i := 141) (by decide +kernel)))) (hev 0 (by decide))
set_option maxRecDepth 100000 in
theorem law_S17 {p : Program} {s : State} {m : MethodId} {meth : Method} {c : Code} {b L : Nat} {xs : Nat → Int32} (C0 : lw_At p s m meth c b L xs) : ∃ q v : Nat, rt_Str q v 1 (fun j => ([43] : List Int32).getD j 0) (fun q : Nat => s.heap.size ≤ q) s s.heap ∧ vk_R RX12 394 "+" q s := by
  obtain ⟨hx, hb, hr, hml, hown, hts, hX, hbl, hlocks, hgv⟩ := id C0
  have hs := flat_of_before _ hgv
  have hO : ∀ a : Nat, a < s.heap.size → ¬ (fun q : Nat => s.heap.size ≤ q) a := fun a h h2 => Nat.not_le.mpr h h2
  have hall : ∀ j : Nat, j < 1 → (Cond.eq (.elem (.field (.string RX12 394) "java/lang/String" "value" "[B") (.int (Int32.ofNat j))) (.int (([43] : List Int32).getD j 0))).before #[Value.ref b] s = true := by
    intro j hj
    have h1 : (List.range 1).all (fun j => decide ((flatC (Jvm.Cond.and given_1 narrow_1))[305 + j]? = some (Cond.eq (.elem (.field (.string RX12 394) "java/lang/String" "value" "[B") (.int (Int32.ofNat j))) (.int (([43] : List Int32).getD j 0))))) = true := by decide +kernel
    exact hs _ (List.mem_of_getElem? (of_decide_eq_true (List.all_eq_true.mp h1 j (List.mem_range.mpr hj))))
  have h01 : ∀ i : Nat, i < 1 → i = 0 := fun i h => by omega
  obtain ⟨adK, adV, hV, hev⟩ := vk_Sof (args := #[Value.ref b]) (s := s) (N := 1) (tm := fun _ => (.string RX12 394)) (len := [1]) (byt := [[43]]) (A := (fun q : Nat => s.heap.size ≤ q)) (fun i hi => by rw [h01 i hi]; decide) (fun i hi => hs (.exactly (.string RX12 394) "java/lang/String") (List.mem_of_getElem? (i := 301) (by decide +kernel))) (fun i hi => hs (.eq (.field (.string RX12 394) "java/lang/String" "coder" "B") (.int 0)) (List.mem_of_getElem? (i := 302) (by decide +kernel))) (fun i hi => hs (.arrayOf (.field (.string RX12 394) "java/lang/String" "value" "[B") .byte) (List.mem_of_getElem? (i := 303) (by decide +kernel))) (fun i hi => by rw [h01 i hi]; exact hs (.eq (.length (.field (.string RX12 394) "java/lang/String" "value" "[B")) (.int 1)) (List.mem_of_getElem? (i := 304) (by decide +kernel))) (fun i hi j hj => by rw [h01 i hi] at hj ⊢; exact hall j hj) (fun i j hi hj hne => absurd ((h01 i hi).trans (h01 j hj).symm) hne) hO
  obtain ⟨h1, h2, h3, h4⟩ := hV.1 0 (by decide)
  refine ⟨adK 0, adV 0, ⟨h1, h2, h3, h4, ?_, ?_⟩, ?_⟩
  · exact va_Zof (hts (.laysStatic "java/lang/String" "COMPACT_STRINGS" "Z") (rt_pc_in 4 _ (List.mem_of_getElem? (i := 104) (by decide +kernel)))) (hts (.initialized "java/lang/String") (rt_pc_in 1 _ (List.mem_of_getElem? (i := 13) (by decide +kernel)))) (va_eqi (hs (.eq (.static "java/lang/String" "COMPACT_STRINGS" "Z") (.int 1)) (List.mem_of_getElem? (i := 56) (by decide +kernel)))) hO
  · exact va_Zqof (hts (.laysStatic "jdk/internal/util/Preconditions" "SIOOBE_FORMATTER" "Ljava/util/function/BiFunction;") (rt_pc_in 4 _ (List.mem_of_getElem? (i := 120) (by decide +kernel)))) (hts (.initialized "jdk/internal/util/Preconditions") (rt_pc_in 1 _ (List.mem_of_getElem? (i := 15) (by decide +kernel)))) (hs (.isRef (.static "jdk/internal/util/Preconditions" "SIOOBE_FORMATTER" "Ljava/util/function/BiFunction;")) (by decide +kernel)) hO
  · exact vk_R.of (A := #[Value.ref b]) (hts (.stringRef RX12 394 "+") (rt_pc_in 7 _ (List.mem_of_getElem? (i := 139) (by decide +kernel)))) (hev 0 (by decide))
set_option maxRecDepth 100000 in
theorem law_S18 {p : Program} {s : State} {m : MethodId} {meth : Method} {c : Code} {b L : Nat} {xs : Nat → Int32} (C0 : lw_At p s m meth c b L xs) : ∃ q v : Nat, rt_Str q v 1 (fun j => ([45] : List Int32).getD j 0) (fun q : Nat => s.heap.size ≤ q) s s.heap ∧ vk_R RX12 396 "-" q s := by
  obtain ⟨hx, hb, hr, hml, hown, hts, hX, hbl, hlocks, hgv⟩ := id C0
  have hs := flat_of_before _ hgv
  have hO : ∀ a : Nat, a < s.heap.size → ¬ (fun q : Nat => s.heap.size ≤ q) a := fun a h h2 => Nat.not_le.mpr h h2
  have hall : ∀ j : Nat, j < 1 → (Cond.eq (.elem (.field (.string RX12 396) "java/lang/String" "value" "[B") (.int (Int32.ofNat j))) (.int (([45] : List Int32).getD j 0))).before #[Value.ref b] s = true := by
    intro j hj
    have h1 : (List.range 1).all (fun j => decide ((flatC (Jvm.Cond.and given_1 narrow_1))[227 + j]? = some (Cond.eq (.elem (.field (.string RX12 396) "java/lang/String" "value" "[B") (.int (Int32.ofNat j))) (.int (([45] : List Int32).getD j 0))))) = true := by decide +kernel
    exact hs _ (List.mem_of_getElem? (of_decide_eq_true (List.all_eq_true.mp h1 j (List.mem_range.mpr hj))))
  have h01 : ∀ i : Nat, i < 1 → i = 0 := fun i h => by omega
  obtain ⟨adK, adV, hV, hev⟩ := vk_Sof (args := #[Value.ref b]) (s := s) (N := 1) (tm := fun _ => (.string RX12 396)) (len := [1]) (byt := [[45]]) (A := (fun q : Nat => s.heap.size ≤ q)) (fun i hi => by rw [h01 i hi]; decide) (fun i hi => hs (.exactly (.string RX12 396) "java/lang/String") (List.mem_of_getElem? (i := 223) (by decide +kernel))) (fun i hi => hs (.eq (.field (.string RX12 396) "java/lang/String" "coder" "B") (.int 0)) (List.mem_of_getElem? (i := 224) (by decide +kernel))) (fun i hi => hs (.arrayOf (.field (.string RX12 396) "java/lang/String" "value" "[B") .byte) (List.mem_of_getElem? (i := 225) (by decide +kernel))) (fun i hi => by rw [h01 i hi]; exact hs (.eq (.length (.field (.string RX12 396) "java/lang/String" "value" "[B")) (.int 1)) (List.mem_of_getElem? (i := 226) (by decide +kernel))) (fun i hi j hj => by rw [h01 i hi] at hj ⊢; exact hall j hj) (fun i j hi hj hne => absurd ((h01 i hi).trans (h01 j hj).symm) hne) hO
  obtain ⟨h1, h2, h3, h4⟩ := hV.1 0 (by decide)
  refine ⟨adK 0, adV 0, ⟨h1, h2, h3, h4, ?_, ?_⟩, ?_⟩
  · exact va_Zof (hts (.laysStatic "java/lang/String" "COMPACT_STRINGS" "Z") (rt_pc_in 4 _ (List.mem_of_getElem? (i := 104) (by decide +kernel)))) (hts (.initialized "java/lang/String") (rt_pc_in 1 _ (List.mem_of_getElem? (i := 13) (by decide +kernel)))) (va_eqi (hs (.eq (.static "java/lang/String" "COMPACT_STRINGS" "Z") (.int 1)) (List.mem_of_getElem? (i := 56) (by decide +kernel)))) hO
  · exact va_Zqof (hts (.laysStatic "jdk/internal/util/Preconditions" "SIOOBE_FORMATTER" "Ljava/util/function/BiFunction;") (rt_pc_in 4 _ (List.mem_of_getElem? (i := 120) (by decide +kernel)))) (hts (.initialized "jdk/internal/util/Preconditions") (rt_pc_in 1 _ (List.mem_of_getElem? (i := 15) (by decide +kernel)))) (hs (.isRef (.static "jdk/internal/util/Preconditions" "SIOOBE_FORMATTER" "Ljava/util/function/BiFunction;")) (by decide +kernel)) hO
  · exact vk_R.of (A := #[Value.ref b]) (hts (.stringRef RX12 396 "-") (rt_pc_in 7 _ (List.mem_of_getElem? (i := 129) (by decide +kernel)))) (hev 0 (by decide))
set_option maxRecDepth 100000 in
theorem law_S19 {p : Program} {s : State} {m : MethodId} {meth : Method} {c : Code} {b L : Nat} {xs : Nat → Int32} (C0 : lw_At p s m meth c b L xs) : ∃ q v : Nat, rt_Str q v 1 (fun j => ([42] : List Int32).getD j 0) (fun q : Nat => s.heap.size ≤ q) s s.heap ∧ vk_R RX12 401 "*" q s := by
  obtain ⟨hx, hb, hr, hml, hown, hts, hX, hbl, hlocks, hgv⟩ := id C0
  have hs := flat_of_before _ hgv
  have hO : ∀ a : Nat, a < s.heap.size → ¬ (fun q : Nat => s.heap.size ≤ q) a := fun a h h2 => Nat.not_le.mpr h h2
  have hall : ∀ j : Nat, j < 1 → (Cond.eq (.elem (.field (.string RX12 401) "java/lang/String" "value" "[B") (.int (Int32.ofNat j))) (.int (([42] : List Int32).getD j 0))).before #[Value.ref b] s = true := by
    intro j hj
    have h1 : (List.range 1).all (fun j => decide ((flatC (Jvm.Cond.and given_1 narrow_1))[300 + j]? = some (Cond.eq (.elem (.field (.string RX12 401) "java/lang/String" "value" "[B") (.int (Int32.ofNat j))) (.int (([42] : List Int32).getD j 0))))) = true := by decide +kernel
    exact hs _ (List.mem_of_getElem? (of_decide_eq_true (List.all_eq_true.mp h1 j (List.mem_range.mpr hj))))
  have h01 : ∀ i : Nat, i < 1 → i = 0 := fun i h => by omega
  obtain ⟨adK, adV, hV, hev⟩ := vk_Sof (args := #[Value.ref b]) (s := s) (N := 1) (tm := fun _ => (.string RX12 401)) (len := [1]) (byt := [[42]]) (A := (fun q : Nat => s.heap.size ≤ q)) (fun i hi => by rw [h01 i hi]; decide) (fun i hi => hs (.exactly (.string RX12 401) "java/lang/String") (List.mem_of_getElem? (i := 296) (by decide +kernel))) (fun i hi => hs (.eq (.field (.string RX12 401) "java/lang/String" "coder" "B") (.int 0)) (List.mem_of_getElem? (i := 297) (by decide +kernel))) (fun i hi => hs (.arrayOf (.field (.string RX12 401) "java/lang/String" "value" "[B") .byte) (List.mem_of_getElem? (i := 298) (by decide +kernel))) (fun i hi => by rw [h01 i hi]; exact hs (.eq (.length (.field (.string RX12 401) "java/lang/String" "value" "[B")) (.int 1)) (List.mem_of_getElem? (i := 299) (by decide +kernel))) (fun i hi j hj => by rw [h01 i hi] at hj ⊢; exact hall j hj) (fun i j hi hj hne => absurd ((h01 i hi).trans (h01 j hj).symm) hne) hO
  obtain ⟨h1, h2, h3, h4⟩ := hV.1 0 (by decide)
  refine ⟨adK 0, adV 0, ⟨h1, h2, h3, h4, ?_, ?_⟩, ?_⟩
  · exact va_Zof (hts (.laysStatic "java/lang/String" "COMPACT_STRINGS" "Z") (rt_pc_in 4 _ (List.mem_of_getElem? (i := 104) (by decide +kernel)))) (hts (.initialized "java/lang/String") (rt_pc_in 1 _ (List.mem_of_getElem? (i := 13) (by decide +kernel)))) (va_eqi (hs (.eq (.static "java/lang/String" "COMPACT_STRINGS" "Z") (.int 1)) (List.mem_of_getElem? (i := 56) (by decide +kernel)))) hO
  · exact va_Zqof (hts (.laysStatic "jdk/internal/util/Preconditions" "SIOOBE_FORMATTER" "Ljava/util/function/BiFunction;") (rt_pc_in 4 _ (List.mem_of_getElem? (i := 120) (by decide +kernel)))) (hts (.initialized "jdk/internal/util/Preconditions") (rt_pc_in 1 _ (List.mem_of_getElem? (i := 15) (by decide +kernel)))) (hs (.isRef (.static "jdk/internal/util/Preconditions" "SIOOBE_FORMATTER" "Ljava/util/function/BiFunction;")) (by decide +kernel)) hO
  · exact vk_R.of (A := #[Value.ref b]) (hts (.stringRef RX12 401 "*") (rt_pc_in 7 _ (List.mem_of_getElem? (i := 138) (by decide +kernel)))) (hev 0 (by decide))
set_option maxRecDepth 100000 in
theorem law_S20 {p : Program} {s : State} {m : MethodId} {meth : Method} {c : Code} {b L : Nat} {xs : Nat → Int32} (C0 : lw_At p s m meth c b L xs) : ∃ q v : Nat, rt_Str q v 1 (fun j => ([40] : List Int32).getD j 0) (fun q : Nat => s.heap.size ≤ q) s s.heap ∧ vk_R RX12 403 "(" q s := by
  obtain ⟨hx, hb, hr, hml, hown, hts, hX, hbl, hlocks, hgv⟩ := id C0
  have hs := flat_of_before _ hgv
  have hO : ∀ a : Nat, a < s.heap.size → ¬ (fun q : Nat => s.heap.size ≤ q) a := fun a h h2 => Nat.not_le.mpr h h2
  have hall : ∀ j : Nat, j < 1 → (Cond.eq (.elem (.field (.string RX12 403) "java/lang/String" "value" "[B") (.int (Int32.ofNat j))) (.int (([40] : List Int32).getD j 0))).before #[Value.ref b] s = true := by
    intro j hj
    have h1 : (List.range 1).all (fun j => decide ((flatC (Jvm.Cond.and given_1 narrow_1))[232 + j]? = some (Cond.eq (.elem (.field (.string RX12 403) "java/lang/String" "value" "[B") (.int (Int32.ofNat j))) (.int (([40] : List Int32).getD j 0))))) = true := by decide +kernel
    exact hs _ (List.mem_of_getElem? (of_decide_eq_true (List.all_eq_true.mp h1 j (List.mem_range.mpr hj))))
  have h01 : ∀ i : Nat, i < 1 → i = 0 := fun i h => by omega
  obtain ⟨adK, adV, hV, hev⟩ := vk_Sof (args := #[Value.ref b]) (s := s) (N := 1) (tm := fun _ => (.string RX12 403)) (len := [1]) (byt := [[40]]) (A := (fun q : Nat => s.heap.size ≤ q)) (fun i hi => by rw [h01 i hi]; decide) (fun i hi => hs (.exactly (.string RX12 403) "java/lang/String") (List.mem_of_getElem? (i := 228) (by decide +kernel))) (fun i hi => hs (.eq (.field (.string RX12 403) "java/lang/String" "coder" "B") (.int 0)) (List.mem_of_getElem? (i := 229) (by decide +kernel))) (fun i hi => hs (.arrayOf (.field (.string RX12 403) "java/lang/String" "value" "[B") .byte) (List.mem_of_getElem? (i := 230) (by decide +kernel))) (fun i hi => by rw [h01 i hi]; exact hs (.eq (.length (.field (.string RX12 403) "java/lang/String" "value" "[B")) (.int 1)) (List.mem_of_getElem? (i := 231) (by decide +kernel))) (fun i hi j hj => by rw [h01 i hi] at hj ⊢; exact hall j hj) (fun i j hi hj hne => absurd ((h01 i hi).trans (h01 j hj).symm) hne) hO
  obtain ⟨h1, h2, h3, h4⟩ := hV.1 0 (by decide)
  refine ⟨adK 0, adV 0, ⟨h1, h2, h3, h4, ?_, ?_⟩, ?_⟩
  · exact va_Zof (hts (.laysStatic "java/lang/String" "COMPACT_STRINGS" "Z") (rt_pc_in 4 _ (List.mem_of_getElem? (i := 104) (by decide +kernel)))) (hts (.initialized "java/lang/String") (rt_pc_in 1 _ (List.mem_of_getElem? (i := 13) (by decide +kernel)))) (va_eqi (hs (.eq (.static "java/lang/String" "COMPACT_STRINGS" "Z") (.int 1)) (List.mem_of_getElem? (i := 56) (by decide +kernel)))) hO
  · exact va_Zqof (hts (.laysStatic "jdk/internal/util/Preconditions" "SIOOBE_FORMATTER" "Ljava/util/function/BiFunction;") (rt_pc_in 4 _ (List.mem_of_getElem? (i := 120) (by decide +kernel)))) (hts (.initialized "jdk/internal/util/Preconditions") (rt_pc_in 1 _ (List.mem_of_getElem? (i := 15) (by decide +kernel)))) (hs (.isRef (.static "jdk/internal/util/Preconditions" "SIOOBE_FORMATTER" "Ljava/util/function/BiFunction;")) (by decide +kernel)) hO
  · exact vk_R.of (A := #[Value.ref b]) (hts (.stringRef RX12 403 "(") (rt_pc_in 7 _ (List.mem_of_getElem? (i := 130) (by decide +kernel)))) (hev 0 (by decide))
set_option maxRecDepth 100000 in
theorem law_S21 {p : Program} {s : State} {m : MethodId} {meth : Method} {c : Code} {b L : Nat} {xs : Nat → Int32} (C0 : lw_At p s m meth c b L xs) : ∃ q v : Nat, rt_Str q v 1 (fun j => ([41] : List Int32).getD j 0) (fun q : Nat => s.heap.size ≤ q) s s.heap ∧ vk_R RX12 408 ")" q s := by
  obtain ⟨hx, hb, hr, hml, hown, hts, hX, hbl, hlocks, hgv⟩ := id C0
  have hs := flat_of_before _ hgv
  have hO : ∀ a : Nat, a < s.heap.size → ¬ (fun q : Nat => s.heap.size ≤ q) a := fun a h h2 => Nat.not_le.mpr h h2
  have hall : ∀ j : Nat, j < 1 → (Cond.eq (.elem (.field (.string RX12 408) "java/lang/String" "value" "[B") (.int (Int32.ofNat j))) (.int (([41] : List Int32).getD j 0))).before #[Value.ref b] s = true := by
    intro j hj
    have h1 : (List.range 1).all (fun j => decide ((flatC (Jvm.Cond.and given_1 narrow_1))[237 + j]? = some (Cond.eq (.elem (.field (.string RX12 408) "java/lang/String" "value" "[B") (.int (Int32.ofNat j))) (.int (([41] : List Int32).getD j 0))))) = true := by decide +kernel
    exact hs _ (List.mem_of_getElem? (of_decide_eq_true (List.all_eq_true.mp h1 j (List.mem_range.mpr hj))))
  have h01 : ∀ i : Nat, i < 1 → i = 0 := fun i h => by omega
  obtain ⟨adK, adV, hV, hev⟩ := vk_Sof (args := #[Value.ref b]) (s := s) (N := 1) (tm := fun _ => (.string RX12 408)) (len := [1]) (byt := [[41]]) (A := (fun q : Nat => s.heap.size ≤ q)) (fun i hi => by rw [h01 i hi]; decide) (fun i hi => hs (.exactly (.string RX12 408) "java/lang/String") (List.mem_of_getElem? (i := 233) (by decide +kernel))) (fun i hi => hs (.eq (.field (.string RX12 408) "java/lang/String" "coder" "B") (.int 0)) (List.mem_of_getElem? (i := 234) (by decide +kernel))) (fun i hi => hs (.arrayOf (.field (.string RX12 408) "java/lang/String" "value" "[B") .byte) (List.mem_of_getElem? (i := 235) (by decide +kernel))) (fun i hi => by rw [h01 i hi]; exact hs (.eq (.length (.field (.string RX12 408) "java/lang/String" "value" "[B")) (.int 1)) (List.mem_of_getElem? (i := 236) (by decide +kernel))) (fun i hi j hj => by rw [h01 i hi] at hj ⊢; exact hall j hj) (fun i j hi hj hne => absurd ((h01 i hi).trans (h01 j hj).symm) hne) hO
  obtain ⟨h1, h2, h3, h4⟩ := hV.1 0 (by decide)
  refine ⟨adK 0, adV 0, ⟨h1, h2, h3, h4, ?_, ?_⟩, ?_⟩
  · exact va_Zof (hts (.laysStatic "java/lang/String" "COMPACT_STRINGS" "Z") (rt_pc_in 4 _ (List.mem_of_getElem? (i := 104) (by decide +kernel)))) (hts (.initialized "java/lang/String") (rt_pc_in 1 _ (List.mem_of_getElem? (i := 13) (by decide +kernel)))) (va_eqi (hs (.eq (.static "java/lang/String" "COMPACT_STRINGS" "Z") (.int 1)) (List.mem_of_getElem? (i := 56) (by decide +kernel)))) hO
  · exact va_Zqof (hts (.laysStatic "jdk/internal/util/Preconditions" "SIOOBE_FORMATTER" "Ljava/util/function/BiFunction;") (rt_pc_in 4 _ (List.mem_of_getElem? (i := 120) (by decide +kernel)))) (hts (.initialized "jdk/internal/util/Preconditions") (rt_pc_in 1 _ (List.mem_of_getElem? (i := 15) (by decide +kernel)))) (hs (.isRef (.static "jdk/internal/util/Preconditions" "SIOOBE_FORMATTER" "Ljava/util/function/BiFunction;")) (by decide +kernel)) hO
  · exact vk_R.of (A := #[Value.ref b]) (hts (.stringRef RX12 408 ")") (rt_pc_in 7 _ (List.mem_of_getElem? (i := 131) (by decide +kernel)))) (hev 0 (by decide))
set_option maxRecDepth 100000 in
theorem law_S22 {p : Program} {s : State} {m : MethodId} {meth : Method} {c : Code} {b L : Nat} {xs : Nat → Int32} (C0 : lw_At p s m meth c b L xs) : ∃ q v : Nat, rt_Str q v 8 (fun j => ([115, 116, 114, 101, 110, 103, 116, 104] : List Int32).getD j 0) (fun q : Nat => s.heap.size ≤ q) s s.heap ∧ vk_R RX12 410 "strength" q s := by
  obtain ⟨hx, hb, hr, hml, hown, hts, hX, hbl, hlocks, hgv⟩ := id C0
  have hs := flat_of_before _ hgv
  have hO : ∀ a : Nat, a < s.heap.size → ¬ (fun q : Nat => s.heap.size ≤ q) a := fun a h h2 => Nat.not_le.mpr h h2
  have hall : ∀ j : Nat, j < 8 → (Cond.eq (.elem (.field (.string RX12 410) "java/lang/String" "value" "[B") (.int (Int32.ofNat j))) (.int (([115, 116, 114, 101, 110, 103, 116, 104] : List Int32).getD j 0))).before #[Value.ref b] s = true := by
    intro j hj
    have h1 : (List.range 8).all (fun j => decide ((flatC (Jvm.Cond.and given_1 narrow_1))[242 + j]? = some (Cond.eq (.elem (.field (.string RX12 410) "java/lang/String" "value" "[B") (.int (Int32.ofNat j))) (.int (([115, 116, 114, 101, 110, 103, 116, 104] : List Int32).getD j 0))))) = true := by decide +kernel
    exact hs _ (List.mem_of_getElem? (of_decide_eq_true (List.all_eq_true.mp h1 j (List.mem_range.mpr hj))))
  have h01 : ∀ i : Nat, i < 1 → i = 0 := fun i h => by omega
  obtain ⟨adK, adV, hV, hev⟩ := vk_Sof (args := #[Value.ref b]) (s := s) (N := 1) (tm := fun _ => (.string RX12 410)) (len := [8]) (byt := [[115, 116, 114, 101, 110, 103, 116, 104]]) (A := (fun q : Nat => s.heap.size ≤ q)) (fun i hi => by rw [h01 i hi]; decide) (fun i hi => hs (.exactly (.string RX12 410) "java/lang/String") (List.mem_of_getElem? (i := 238) (by decide +kernel))) (fun i hi => hs (.eq (.field (.string RX12 410) "java/lang/String" "coder" "B") (.int 0)) (List.mem_of_getElem? (i := 239) (by decide +kernel))) (fun i hi => hs (.arrayOf (.field (.string RX12 410) "java/lang/String" "value" "[B") .byte) (List.mem_of_getElem? (i := 240) (by decide +kernel))) (fun i hi => by rw [h01 i hi]; exact hs (.eq (.length (.field (.string RX12 410) "java/lang/String" "value" "[B")) (.int 8)) (List.mem_of_getElem? (i := 241) (by decide +kernel))) (fun i hi j hj => by rw [h01 i hi] at hj ⊢; exact hall j hj) (fun i j hi hj hne => absurd ((h01 i hi).trans (h01 j hj).symm) hne) hO
  obtain ⟨h1, h2, h3, h4⟩ := hV.1 0 (by decide)
  refine ⟨adK 0, adV 0, ⟨h1, h2, h3, h4, ?_, ?_⟩, ?_⟩
  · exact va_Zof (hts (.laysStatic "java/lang/String" "COMPACT_STRINGS" "Z") (rt_pc_in 4 _ (List.mem_of_getElem? (i := 104) (by decide +kernel)))) (hts (.initialized "java/lang/String") (rt_pc_in 1 _ (List.mem_of_getElem? (i := 13) (by decide +kernel)))) (va_eqi (hs (.eq (.static "java/lang/String" "COMPACT_STRINGS" "Z") (.int 1)) (List.mem_of_getElem? (i := 56) (by decide +kernel)))) hO
  · exact va_Zqof (hts (.laysStatic "jdk/internal/util/Preconditions" "SIOOBE_FORMATTER" "Ljava/util/function/BiFunction;") (rt_pc_in 4 _ (List.mem_of_getElem? (i := 120) (by decide +kernel)))) (hts (.initialized "jdk/internal/util/Preconditions") (rt_pc_in 1 _ (List.mem_of_getElem? (i := 15) (by decide +kernel)))) (hs (.isRef (.static "jdk/internal/util/Preconditions" "SIOOBE_FORMATTER" "Ljava/util/function/BiFunction;")) (by decide +kernel)) hO
  · exact vk_R.of (A := #[Value.ref b]) (hts (.stringRef RX12 410 "strength") (rt_pc_in 7 _ (List.mem_of_getElem? (i := 132) (by decide +kernel)))) (hev 0 (by decide))
set_option maxRecDepth 100000 in
theorem law_S23 {p : Program} {s : State} {m : MethodId} {meth : Method} {c : Code} {b L : Nat} {xs : Nat → Int32} (C0 : lw_At p s m meth c b L xs) : ∃ q v : Nat, rt_Str q v 4 (fun j => ([104, 117, 114, 116] : List Int32).getD j 0) (fun q : Nat => s.heap.size ≤ q) s s.heap ∧ vk_R RX12 411 "hurt" q s := by
  obtain ⟨hx, hb, hr, hml, hown, hts, hX, hbl, hlocks, hgv⟩ := id C0
  have hs := flat_of_before _ hgv
  have hO : ∀ a : Nat, a < s.heap.size → ¬ (fun q : Nat => s.heap.size ≤ q) a := fun a h h2 => Nat.not_le.mpr h h2
  have hall : ∀ j : Nat, j < 4 → (Cond.eq (.elem (.field (.string RX12 411) "java/lang/String" "value" "[B") (.int (Int32.ofNat j))) (.int (([104, 117, 114, 116] : List Int32).getD j 0))).before #[Value.ref b] s = true := by
    intro j hj
    have h1 : (List.range 4).all (fun j => decide ((flatC (Jvm.Cond.and given_1 narrow_1))[255 + j]? = some (Cond.eq (.elem (.field (.string RX12 411) "java/lang/String" "value" "[B") (.int (Int32.ofNat j))) (.int (([104, 117, 114, 116] : List Int32).getD j 0))))) = true := by decide +kernel
    exact hs _ (List.mem_of_getElem? (of_decide_eq_true (List.all_eq_true.mp h1 j (List.mem_range.mpr hj))))
  have h01 : ∀ i : Nat, i < 1 → i = 0 := fun i h => by omega
  obtain ⟨adK, adV, hV, hev⟩ := vk_Sof (args := #[Value.ref b]) (s := s) (N := 1) (tm := fun _ => (.string RX12 411)) (len := [4]) (byt := [[104, 117, 114, 116]]) (A := (fun q : Nat => s.heap.size ≤ q)) (fun i hi => by rw [h01 i hi]; decide) (fun i hi => hs (.exactly (.string RX12 411) "java/lang/String") (List.mem_of_getElem? (i := 251) (by decide +kernel))) (fun i hi => hs (.eq (.field (.string RX12 411) "java/lang/String" "coder" "B") (.int 0)) (List.mem_of_getElem? (i := 252) (by decide +kernel))) (fun i hi => hs (.arrayOf (.field (.string RX12 411) "java/lang/String" "value" "[B") .byte) (List.mem_of_getElem? (i := 253) (by decide +kernel))) (fun i hi => by rw [h01 i hi]; exact hs (.eq (.length (.field (.string RX12 411) "java/lang/String" "value" "[B")) (.int 4)) (List.mem_of_getElem? (i := 254) (by decide +kernel))) (fun i hi j hj => by rw [h01 i hi] at hj ⊢; exact hall j hj) (fun i j hi hj hne => absurd ((h01 i hi).trans (h01 j hj).symm) hne) hO
  obtain ⟨h1, h2, h3, h4⟩ := hV.1 0 (by decide)
  refine ⟨adK 0, adV 0, ⟨h1, h2, h3, h4, ?_, ?_⟩, ?_⟩
  · exact va_Zof (hts (.laysStatic "java/lang/String" "COMPACT_STRINGS" "Z") (rt_pc_in 4 _ (List.mem_of_getElem? (i := 104) (by decide +kernel)))) (hts (.initialized "java/lang/String") (rt_pc_in 1 _ (List.mem_of_getElem? (i := 13) (by decide +kernel)))) (va_eqi (hs (.eq (.static "java/lang/String" "COMPACT_STRINGS" "Z") (.int 1)) (List.mem_of_getElem? (i := 56) (by decide +kernel)))) hO
  · exact va_Zqof (hts (.laysStatic "jdk/internal/util/Preconditions" "SIOOBE_FORMATTER" "Ljava/util/function/BiFunction;") (rt_pc_in 4 _ (List.mem_of_getElem? (i := 120) (by decide +kernel)))) (hts (.initialized "jdk/internal/util/Preconditions") (rt_pc_in 1 _ (List.mem_of_getElem? (i := 15) (by decide +kernel)))) (hs (.isRef (.static "jdk/internal/util/Preconditions" "SIOOBE_FORMATTER" "Ljava/util/function/BiFunction;")) (by decide +kernel)) hO
  · exact vk_R.of (A := #[Value.ref b]) (hts (.stringRef RX12 411 "hurt") (rt_pc_in 7 _ (List.mem_of_getElem? (i := 133) (by decide +kernel)))) (hev 0 (by decide))
set_option maxRecDepth 100000 in
theorem law_S24 {p : Program} {s : State} {m : MethodId} {meth : Method} {c : Code} {b L : Nat} {xs : Nat → Int32} (C0 : lw_At p s m meth c b L xs) : ∃ q v : Nat, rt_Str q v 5 (fun j => ([115, 107, 105, 108, 108] : List Int32).getD j 0) (fun q : Nat => s.heap.size ≤ q) s s.heap ∧ vk_R RX12 412 "skill" q s := by
  obtain ⟨hx, hb, hr, hml, hown, hts, hX, hbl, hlocks, hgv⟩ := id C0
  have hs := flat_of_before _ hgv
  have hO : ∀ a : Nat, a < s.heap.size → ¬ (fun q : Nat => s.heap.size ≤ q) a := fun a h h2 => Nat.not_le.mpr h h2
  have hall : ∀ j : Nat, j < 5 → (Cond.eq (.elem (.field (.string RX12 412) "java/lang/String" "value" "[B") (.int (Int32.ofNat j))) (.int (([115, 107, 105, 108, 108] : List Int32).getD j 0))).before #[Value.ref b] s = true := by
    intro j hj
    have h1 : (List.range 5).all (fun j => decide ((flatC (Jvm.Cond.and given_1 narrow_1))[264 + j]? = some (Cond.eq (.elem (.field (.string RX12 412) "java/lang/String" "value" "[B") (.int (Int32.ofNat j))) (.int (([115, 107, 105, 108, 108] : List Int32).getD j 0))))) = true := by decide +kernel
    exact hs _ (List.mem_of_getElem? (of_decide_eq_true (List.all_eq_true.mp h1 j (List.mem_range.mpr hj))))
  have h01 : ∀ i : Nat, i < 1 → i = 0 := fun i h => by omega
  obtain ⟨adK, adV, hV, hev⟩ := vk_Sof (args := #[Value.ref b]) (s := s) (N := 1) (tm := fun _ => (.string RX12 412)) (len := [5]) (byt := [[115, 107, 105, 108, 108]]) (A := (fun q : Nat => s.heap.size ≤ q)) (fun i hi => by rw [h01 i hi]; decide) (fun i hi => hs (.exactly (.string RX12 412) "java/lang/String") (List.mem_of_getElem? (i := 260) (by decide +kernel))) (fun i hi => hs (.eq (.field (.string RX12 412) "java/lang/String" "coder" "B") (.int 0)) (List.mem_of_getElem? (i := 261) (by decide +kernel))) (fun i hi => hs (.arrayOf (.field (.string RX12 412) "java/lang/String" "value" "[B") .byte) (List.mem_of_getElem? (i := 262) (by decide +kernel))) (fun i hi => by rw [h01 i hi]; exact hs (.eq (.length (.field (.string RX12 412) "java/lang/String" "value" "[B")) (.int 5)) (List.mem_of_getElem? (i := 263) (by decide +kernel))) (fun i hi j hj => by rw [h01 i hi] at hj ⊢; exact hall j hj) (fun i j hi hj hne => absurd ((h01 i hi).trans (h01 j hj).symm) hne) hO
  obtain ⟨h1, h2, h3, h4⟩ := hV.1 0 (by decide)
  refine ⟨adK 0, adV 0, ⟨h1, h2, h3, h4, ?_, ?_⟩, ?_⟩
  · exact va_Zof (hts (.laysStatic "java/lang/String" "COMPACT_STRINGS" "Z") (rt_pc_in 4 _ (List.mem_of_getElem? (i := 104) (by decide +kernel)))) (hts (.initialized "java/lang/String") (rt_pc_in 1 _ (List.mem_of_getElem? (i := 13) (by decide +kernel)))) (va_eqi (hs (.eq (.static "java/lang/String" "COMPACT_STRINGS" "Z") (.int 1)) (List.mem_of_getElem? (i := 56) (by decide +kernel)))) hO
  · exact va_Zqof (hts (.laysStatic "jdk/internal/util/Preconditions" "SIOOBE_FORMATTER" "Ljava/util/function/BiFunction;") (rt_pc_in 4 _ (List.mem_of_getElem? (i := 120) (by decide +kernel)))) (hts (.initialized "jdk/internal/util/Preconditions") (rt_pc_in 1 _ (List.mem_of_getElem? (i := 15) (by decide +kernel)))) (hs (.isRef (.static "jdk/internal/util/Preconditions" "SIOOBE_FORMATTER" "Ljava/util/function/BiFunction;")) (by decide +kernel)) hO
  · exact vk_R.of (A := #[Value.ref b]) (hts (.stringRef RX12 412 "skill") (rt_pc_in 7 _ (List.mem_of_getElem? (i := 134) (by decide +kernel)))) (hev 0 (by decide))
set_option maxRecDepth 100000 in
theorem law_S25 {p : Program} {s : State} {m : MethodId} {meth : Method} {c : Code} {b L : Nat} {xs : Nat → Int32} (C0 : lw_At p s m meth c b L xs) : ∃ q v : Nat, rt_Str q v 4 (fun j => ([104, 111, 117, 114] : List Int32).getD j 0) (fun q : Nat => s.heap.size ≤ q) s s.heap ∧ vk_R RX12 413 "hour" q s := by
  obtain ⟨hx, hb, hr, hml, hown, hts, hX, hbl, hlocks, hgv⟩ := id C0
  have hs := flat_of_before _ hgv
  have hO : ∀ a : Nat, a < s.heap.size → ¬ (fun q : Nat => s.heap.size ≤ q) a := fun a h h2 => Nat.not_le.mpr h h2
  have hall : ∀ j : Nat, j < 4 → (Cond.eq (.elem (.field (.string RX12 413) "java/lang/String" "value" "[B") (.int (Int32.ofNat j))) (.int (([104, 111, 117, 114] : List Int32).getD j 0))).before #[Value.ref b] s = true := by
    intro j hj
    have h1 : (List.range 4).all (fun j => decide ((flatC (Jvm.Cond.and given_1 narrow_1))[274 + j]? = some (Cond.eq (.elem (.field (.string RX12 413) "java/lang/String" "value" "[B") (.int (Int32.ofNat j))) (.int (([104, 111, 117, 114] : List Int32).getD j 0))))) = true := by decide +kernel
    exact hs _ (List.mem_of_getElem? (of_decide_eq_true (List.all_eq_true.mp h1 j (List.mem_range.mpr hj))))
  have h01 : ∀ i : Nat, i < 1 → i = 0 := fun i h => by omega
  obtain ⟨adK, adV, hV, hev⟩ := vk_Sof (args := #[Value.ref b]) (s := s) (N := 1) (tm := fun _ => (.string RX12 413)) (len := [4]) (byt := [[104, 111, 117, 114]]) (A := (fun q : Nat => s.heap.size ≤ q)) (fun i hi => by rw [h01 i hi]; decide) (fun i hi => hs (.exactly (.string RX12 413) "java/lang/String") (List.mem_of_getElem? (i := 270) (by decide +kernel))) (fun i hi => hs (.eq (.field (.string RX12 413) "java/lang/String" "coder" "B") (.int 0)) (List.mem_of_getElem? (i := 271) (by decide +kernel))) (fun i hi => hs (.arrayOf (.field (.string RX12 413) "java/lang/String" "value" "[B") .byte) (List.mem_of_getElem? (i := 272) (by decide +kernel))) (fun i hi => by rw [h01 i hi]; exact hs (.eq (.length (.field (.string RX12 413) "java/lang/String" "value" "[B")) (.int 4)) (List.mem_of_getElem? (i := 273) (by decide +kernel))) (fun i hi j hj => by rw [h01 i hi] at hj ⊢; exact hall j hj) (fun i j hi hj hne => absurd ((h01 i hi).trans (h01 j hj).symm) hne) hO
  obtain ⟨h1, h2, h3, h4⟩ := hV.1 0 (by decide)
  refine ⟨adK 0, adV 0, ⟨h1, h2, h3, h4, ?_, ?_⟩, ?_⟩
  · exact va_Zof (hts (.laysStatic "java/lang/String" "COMPACT_STRINGS" "Z") (rt_pc_in 4 _ (List.mem_of_getElem? (i := 104) (by decide +kernel)))) (hts (.initialized "java/lang/String") (rt_pc_in 1 _ (List.mem_of_getElem? (i := 13) (by decide +kernel)))) (va_eqi (hs (.eq (.static "java/lang/String" "COMPACT_STRINGS" "Z") (.int 1)) (List.mem_of_getElem? (i := 56) (by decide +kernel)))) hO
  · exact va_Zqof (hts (.laysStatic "jdk/internal/util/Preconditions" "SIOOBE_FORMATTER" "Ljava/util/function/BiFunction;") (rt_pc_in 4 _ (List.mem_of_getElem? (i := 120) (by decide +kernel)))) (hts (.initialized "jdk/internal/util/Preconditions") (rt_pc_in 1 _ (List.mem_of_getElem? (i := 15) (by decide +kernel)))) (hs (.isRef (.static "jdk/internal/util/Preconditions" "SIOOBE_FORMATTER" "Ljava/util/function/BiFunction;")) (by decide +kernel)) hO
  · exact vk_R.of (A := #[Value.ref b]) (hts (.stringRef RX12 413 "hour") (rt_pc_in 7 _ (List.mem_of_getElem? (i := 135) (by decide +kernel)))) (hev 0 (by decide))
set_option maxRecDepth 100000 in
theorem law_S26 {p : Program} {s : State} {m : MethodId} {meth : Method} {c : Code} {b L : Nat} {xs : Nat → Int32} (C0 : lw_At p s m meth c b L xs) : ∃ q v : Nat, rt_Str q v 4 (fun j => ([102, 117, 101, 108] : List Int32).getD j 0) (fun q : Nat => s.heap.size ≤ q) s s.heap ∧ vk_R RX12 414 "fuel" q s := by
  obtain ⟨hx, hb, hr, hml, hown, hts, hX, hbl, hlocks, hgv⟩ := id C0
  have hs := flat_of_before _ hgv
  have hO : ∀ a : Nat, a < s.heap.size → ¬ (fun q : Nat => s.heap.size ≤ q) a := fun a h h2 => Nat.not_le.mpr h h2
  have hall : ∀ j : Nat, j < 4 → (Cond.eq (.elem (.field (.string RX12 414) "java/lang/String" "value" "[B") (.int (Int32.ofNat j))) (.int (([102, 117, 101, 108] : List Int32).getD j 0))).before #[Value.ref b] s = true := by
    intro j hj
    have h1 : (List.range 4).all (fun j => decide ((flatC (Jvm.Cond.and given_1 narrow_1))[283 + j]? = some (Cond.eq (.elem (.field (.string RX12 414) "java/lang/String" "value" "[B") (.int (Int32.ofNat j))) (.int (([102, 117, 101, 108] : List Int32).getD j 0))))) = true := by decide +kernel
    exact hs _ (List.mem_of_getElem? (of_decide_eq_true (List.all_eq_true.mp h1 j (List.mem_range.mpr hj))))
  have h01 : ∀ i : Nat, i < 1 → i = 0 := fun i h => by omega
  obtain ⟨adK, adV, hV, hev⟩ := vk_Sof (args := #[Value.ref b]) (s := s) (N := 1) (tm := fun _ => (.string RX12 414)) (len := [4]) (byt := [[102, 117, 101, 108]]) (A := (fun q : Nat => s.heap.size ≤ q)) (fun i hi => by rw [h01 i hi]; decide) (fun i hi => hs (.exactly (.string RX12 414) "java/lang/String") (List.mem_of_getElem? (i := 279) (by decide +kernel))) (fun i hi => hs (.eq (.field (.string RX12 414) "java/lang/String" "coder" "B") (.int 0)) (List.mem_of_getElem? (i := 280) (by decide +kernel))) (fun i hi => hs (.arrayOf (.field (.string RX12 414) "java/lang/String" "value" "[B") .byte) (List.mem_of_getElem? (i := 281) (by decide +kernel))) (fun i hi => by rw [h01 i hi]; exact hs (.eq (.length (.field (.string RX12 414) "java/lang/String" "value" "[B")) (.int 4)) (List.mem_of_getElem? (i := 282) (by decide +kernel))) (fun i hi j hj => by rw [h01 i hi] at hj ⊢; exact hall j hj) (fun i j hi hj hne => absurd ((h01 i hi).trans (h01 j hj).symm) hne) hO
  obtain ⟨h1, h2, h3, h4⟩ := hV.1 0 (by decide)
  refine ⟨adK 0, adV 0, ⟨h1, h2, h3, h4, ?_, ?_⟩, ?_⟩
  · exact va_Zof (hts (.laysStatic "java/lang/String" "COMPACT_STRINGS" "Z") (rt_pc_in 4 _ (List.mem_of_getElem? (i := 104) (by decide +kernel)))) (hts (.initialized "java/lang/String") (rt_pc_in 1 _ (List.mem_of_getElem? (i := 13) (by decide +kernel)))) (va_eqi (hs (.eq (.static "java/lang/String" "COMPACT_STRINGS" "Z") (.int 1)) (List.mem_of_getElem? (i := 56) (by decide +kernel)))) hO
  · exact va_Zqof (hts (.laysStatic "jdk/internal/util/Preconditions" "SIOOBE_FORMATTER" "Ljava/util/function/BiFunction;") (rt_pc_in 4 _ (List.mem_of_getElem? (i := 120) (by decide +kernel)))) (hts (.initialized "jdk/internal/util/Preconditions") (rt_pc_in 1 _ (List.mem_of_getElem? (i := 15) (by decide +kernel)))) (hs (.isRef (.static "jdk/internal/util/Preconditions" "SIOOBE_FORMATTER" "Ljava/util/function/BiFunction;")) (by decide +kernel)) hO
  · exact vk_R.of (A := #[Value.ref b]) (hts (.stringRef RX12 414 "fuel") (rt_pc_in 7 _ (List.mem_of_getElem? (i := 136) (by decide +kernel)))) (hev 0 (by decide))
set_option maxRecDepth 100000 in
theorem law_S27 {p : Program} {s : State} {m : MethodId} {meth : Method} {c : Code} {b L : Nat} {xs : Nat → Int32} (C0 : lw_At p s m meth c b L xs) : ∃ q v : Nat, rt_Str q v 3 (fun j => ([102, 97, 114] : List Int32).getD j 0) (fun q : Nat => s.heap.size ≤ q) s s.heap ∧ vk_R RX12 415 "far" q s := by
  obtain ⟨hx, hb, hr, hml, hown, hts, hX, hbl, hlocks, hgv⟩ := id C0
  have hs := flat_of_before _ hgv
  have hO : ∀ a : Nat, a < s.heap.size → ¬ (fun q : Nat => s.heap.size ≤ q) a := fun a h h2 => Nat.not_le.mpr h h2
  have hall : ∀ j : Nat, j < 3 → (Cond.eq (.elem (.field (.string RX12 415) "java/lang/String" "value" "[B") (.int (Int32.ofNat j))) (.int (([102, 97, 114] : List Int32).getD j 0))).before #[Value.ref b] s = true := by
    intro j hj
    have h1 : (List.range 3).all (fun j => decide ((flatC (Jvm.Cond.and given_1 narrow_1))[292 + j]? = some (Cond.eq (.elem (.field (.string RX12 415) "java/lang/String" "value" "[B") (.int (Int32.ofNat j))) (.int (([102, 97, 114] : List Int32).getD j 0))))) = true := by decide +kernel
    exact hs _ (List.mem_of_getElem? (of_decide_eq_true (List.all_eq_true.mp h1 j (List.mem_range.mpr hj))))
  have h01 : ∀ i : Nat, i < 1 → i = 0 := fun i h => by omega
  obtain ⟨adK, adV, hV, hev⟩ := vk_Sof (args := #[Value.ref b]) (s := s) (N := 1) (tm := fun _ => (.string RX12 415)) (len := [3]) (byt := [[102, 97, 114]]) (A := (fun q : Nat => s.heap.size ≤ q)) (fun i hi => by rw [h01 i hi]; decide) (fun i hi => hs (.exactly (.string RX12 415) "java/lang/String") (List.mem_of_getElem? (i := 288) (by decide +kernel))) (fun i hi => hs (.eq (.field (.string RX12 415) "java/lang/String" "coder" "B") (.int 0)) (List.mem_of_getElem? (i := 289) (by decide +kernel))) (fun i hi => hs (.arrayOf (.field (.string RX12 415) "java/lang/String" "value" "[B") .byte) (List.mem_of_getElem? (i := 290) (by decide +kernel))) (fun i hi => by rw [h01 i hi]; exact hs (.eq (.length (.field (.string RX12 415) "java/lang/String" "value" "[B")) (.int 3)) (List.mem_of_getElem? (i := 291) (by decide +kernel))) (fun i hi j hj => by rw [h01 i hi] at hj ⊢; exact hall j hj) (fun i j hi hj hne => absurd ((h01 i hi).trans (h01 j hj).symm) hne) hO
  obtain ⟨h1, h2, h3, h4⟩ := hV.1 0 (by decide)
  refine ⟨adK 0, adV 0, ⟨h1, h2, h3, h4, ?_, ?_⟩, ?_⟩
  · exact va_Zof (hts (.laysStatic "java/lang/String" "COMPACT_STRINGS" "Z") (rt_pc_in 4 _ (List.mem_of_getElem? (i := 104) (by decide +kernel)))) (hts (.initialized "java/lang/String") (rt_pc_in 1 _ (List.mem_of_getElem? (i := 13) (by decide +kernel)))) (va_eqi (hs (.eq (.static "java/lang/String" "COMPACT_STRINGS" "Z") (.int 1)) (List.mem_of_getElem? (i := 56) (by decide +kernel)))) hO
  · exact va_Zqof (hts (.laysStatic "jdk/internal/util/Preconditions" "SIOOBE_FORMATTER" "Ljava/util/function/BiFunction;") (rt_pc_in 4 _ (List.mem_of_getElem? (i := 120) (by decide +kernel)))) (hts (.initialized "jdk/internal/util/Preconditions") (rt_pc_in 1 _ (List.mem_of_getElem? (i := 15) (by decide +kernel)))) (hs (.isRef (.static "jdk/internal/util/Preconditions" "SIOOBE_FORMATTER" "Ljava/util/function/BiFunction;")) (by decide +kernel)) hO
  · exact vk_R.of (A := #[Value.ref b]) (hts (.stringRef RX12 415 "far") (rt_pc_in 7 _ (List.mem_of_getElem? (i := 137) (by decide +kernel)))) (hev 0 (by decide))
set_option maxRecDepth 100000 in
theorem law_S28 {p : Program} {s : State} {m : MethodId} {meth : Method} {c : Code} {b L : Nat} {xs : Nat → Int32} (C0 : lw_At p s m meth c b L xs) : ∃ q v : Nat, rt_Str q v 4 (fun j => ([116, 97, 107, 101] : List Int32).getD j 0) (fun q : Nat => s.heap.size ≤ q) s s.heap ∧ vk_R RX12 417 "take" q s := by
  obtain ⟨hx, hb, hr, hml, hown, hts, hX, hbl, hlocks, hgv⟩ := id C0
  have hs := flat_of_before _ hgv
  have hO : ∀ a : Nat, a < s.heap.size → ¬ (fun q : Nat => s.heap.size ≤ q) a := fun a h h2 => Nat.not_le.mpr h h2
  have hall : ∀ j : Nat, j < 4 → (Cond.eq (.elem (.field (.string RX12 417) "java/lang/String" "value" "[B") (.int (Int32.ofNat j))) (.int (([116, 97, 107, 101] : List Int32).getD j 0))).before #[Value.ref b] s = true := by
    intro j hj
    have h1 : (List.range 4).all (fun j => decide ((flatC (Jvm.Cond.and given_1 narrow_1))[210 + j]? = some (Cond.eq (.elem (.field (.string RX12 417) "java/lang/String" "value" "[B") (.int (Int32.ofNat j))) (.int (([116, 97, 107, 101] : List Int32).getD j 0))))) = true := by decide +kernel
    exact hs _ (List.mem_of_getElem? (of_decide_eq_true (List.all_eq_true.mp h1 j (List.mem_range.mpr hj))))
  have h01 : ∀ i : Nat, i < 1 → i = 0 := fun i h => by omega
  obtain ⟨adK, adV, hV, hev⟩ := vk_Sof (args := #[Value.ref b]) (s := s) (N := 1) (tm := fun _ => (.string RX12 417)) (len := [4]) (byt := [[116, 97, 107, 101]]) (A := (fun q : Nat => s.heap.size ≤ q)) (fun i hi => by rw [h01 i hi]; decide) (fun i hi => hs (.exactly (.string RX12 417) "java/lang/String") (List.mem_of_getElem? (i := 206) (by decide +kernel))) (fun i hi => hs (.eq (.field (.string RX12 417) "java/lang/String" "coder" "B") (.int 0)) (List.mem_of_getElem? (i := 207) (by decide +kernel))) (fun i hi => hs (.arrayOf (.field (.string RX12 417) "java/lang/String" "value" "[B") .byte) (List.mem_of_getElem? (i := 208) (by decide +kernel))) (fun i hi => by rw [h01 i hi]; exact hs (.eq (.length (.field (.string RX12 417) "java/lang/String" "value" "[B")) (.int 4)) (List.mem_of_getElem? (i := 209) (by decide +kernel))) (fun i hi j hj => by rw [h01 i hi] at hj ⊢; exact hall j hj) (fun i j hi hj hne => absurd ((h01 i hi).trans (h01 j hj).symm) hne) hO
  obtain ⟨h1, h2, h3, h4⟩ := hV.1 0 (by decide)
  refine ⟨adK 0, adV 0, ⟨h1, h2, h3, h4, ?_, ?_⟩, ?_⟩
  · exact va_Zof (hts (.laysStatic "java/lang/String" "COMPACT_STRINGS" "Z") (rt_pc_in 4 _ (List.mem_of_getElem? (i := 104) (by decide +kernel)))) (hts (.initialized "java/lang/String") (rt_pc_in 1 _ (List.mem_of_getElem? (i := 13) (by decide +kernel)))) (va_eqi (hs (.eq (.static "java/lang/String" "COMPACT_STRINGS" "Z") (.int 1)) (List.mem_of_getElem? (i := 56) (by decide +kernel)))) hO
  · exact va_Zqof (hts (.laysStatic "jdk/internal/util/Preconditions" "SIOOBE_FORMATTER" "Ljava/util/function/BiFunction;") (rt_pc_in 4 _ (List.mem_of_getElem? (i := 120) (by decide +kernel)))) (hts (.initialized "jdk/internal/util/Preconditions") (rt_pc_in 1 _ (List.mem_of_getElem? (i := 15) (by decide +kernel)))) (hs (.isRef (.static "jdk/internal/util/Preconditions" "SIOOBE_FORMATTER" "Ljava/util/function/BiFunction;")) (by decide +kernel)) hO
  · exact vk_R.of (A := #[Value.ref b]) (hts (.stringRef RX12 417 "take") (rt_pc_in 7 _ (List.mem_of_getElem? (i := 87) (by decide +kernel)))) (hev 0 (by decide))
set_option maxRecDepth 100000 in
theorem law_S29 {p : Program} {s : State} {m : MethodId} {meth : Method} {c : Code} {b L : Nat} {xs : Nat → Int32} (C0 : lw_At p s m meth c b L xs) : ∃ q v : Nat, rt_Str q v 1 (fun j => ([59] : List Int32).getD j 0) (fun q : Nat => s.heap.size ≤ q) s s.heap ∧ vk_R RX12 421 ";" q s := by
  obtain ⟨hx, hb, hr, hml, hown, hts, hX, hbl, hlocks, hgv⟩ := id C0
  have hs := flat_of_before _ hgv
  have hO : ∀ a : Nat, a < s.heap.size → ¬ (fun q : Nat => s.heap.size ≤ q) a := fun a h h2 => Nat.not_le.mpr h h2
  have hall : ∀ j : Nat, j < 1 → (Cond.eq (.elem (.field (.string RX12 421) "java/lang/String" "value" "[B") (.int (Int32.ofNat j))) (.int (([59] : List Int32).getD j 0))).before #[Value.ref b] s = true := by
    intro j hj
    have h1 : (List.range 1).all (fun j => decide ((flatC (Jvm.Cond.and given_1 narrow_1))[335 + j]? = some (Cond.eq (.elem (.field (.string RX12 421) "java/lang/String" "value" "[B") (.int (Int32.ofNat j))) (.int (([59] : List Int32).getD j 0))))) = true := by decide +kernel
    exact hs _ (List.mem_of_getElem? (of_decide_eq_true (List.all_eq_true.mp h1 j (List.mem_range.mpr hj))))
  have h01 : ∀ i : Nat, i < 1 → i = 0 := fun i h => by omega
  obtain ⟨adK, adV, hV, hev⟩ := vk_Sof (args := #[Value.ref b]) (s := s) (N := 1) (tm := fun _ => (.string RX12 421)) (len := [1]) (byt := [[59]]) (A := (fun q : Nat => s.heap.size ≤ q)) (fun i hi => by rw [h01 i hi]; decide) (fun i hi => hs (.exactly (.string RX12 421) "java/lang/String") (List.mem_of_getElem? (i := 331) (by decide +kernel))) (fun i hi => hs (.eq (.field (.string RX12 421) "java/lang/String" "coder" "B") (.int 0)) (List.mem_of_getElem? (i := 332) (by decide +kernel))) (fun i hi => hs (.arrayOf (.field (.string RX12 421) "java/lang/String" "value" "[B") .byte) (List.mem_of_getElem? (i := 333) (by decide +kernel))) (fun i hi => by rw [h01 i hi]; exact hs (.eq (.length (.field (.string RX12 421) "java/lang/String" "value" "[B")) (.int 1)) (List.mem_of_getElem? (i := 334) (by decide +kernel))) (fun i hi j hj => by rw [h01 i hi] at hj ⊢; exact hall j hj) (fun i j hi hj hne => absurd ((h01 i hi).trans (h01 j hj).symm) hne) hO
  obtain ⟨h1, h2, h3, h4⟩ := hV.1 0 (by decide)
  refine ⟨adK 0, adV 0, ⟨h1, h2, h3, h4, ?_, ?_⟩, ?_⟩
  · exact va_Zof (hts (.laysStatic "java/lang/String" "COMPACT_STRINGS" "Z") (rt_pc_in 4 _ (List.mem_of_getElem? (i := 104) (by decide +kernel)))) (hts (.initialized "java/lang/String") (rt_pc_in 1 _ (List.mem_of_getElem? (i := 13) (by decide +kernel)))) (va_eqi (hs (.eq (.static "java/lang/String" "COMPACT_STRINGS" "Z") (.int 1)) (List.mem_of_getElem? (i := 56) (by decide +kernel)))) hO
  · exact va_Zqof (hts (.laysStatic "jdk/internal/util/Preconditions" "SIOOBE_FORMATTER" "Ljava/util/function/BiFunction;") (rt_pc_in 4 _ (List.mem_of_getElem? (i := 120) (by decide +kernel)))) (hts (.initialized "jdk/internal/util/Preconditions") (rt_pc_in 1 _ (List.mem_of_getElem? (i := 15) (by decide +kernel)))) (hs (.isRef (.static "jdk/internal/util/Preconditions" "SIOOBE_FORMATTER" "Ljava/util/function/BiFunction;")) (by decide +kernel)) hO
  · exact vk_R.of (A := #[Value.ref b]) (hts (.stringRef RX12 421 ";") (rt_pc_in 7 _ (List.mem_of_getElem? (i := 144) (by decide +kernel)))) (hev 0 (by decide))
set_option maxRecDepth 100000 in
theorem law_S30 {p : Program} {s : State} {m : MethodId} {meth : Method} {c : Code} {b L : Nat} {xs : Nat → Int32} (C0 : lw_At p s m meth c b L xs) : ∃ q v : Nat, rt_Str q v 2 (fun j => ([103, 111] : List Int32).getD j 0) (fun q : Nat => s.heap.size ≤ q) s s.heap ∧ vk_R RX12 423 "go" q s := by
  obtain ⟨hx, hb, hr, hml, hown, hts, hX, hbl, hlocks, hgv⟩ := id C0
  have hs := flat_of_before _ hgv
  have hO : ∀ a : Nat, a < s.heap.size → ¬ (fun q : Nat => s.heap.size ≤ q) a := fun a h h2 => Nat.not_le.mpr h h2
  have hall : ∀ j : Nat, j < 2 → (Cond.eq (.elem (.field (.string RX12 423) "java/lang/String" "value" "[B") (.int (Int32.ofNat j))) (.int (([103, 111] : List Int32).getD j 0))).before #[Value.ref b] s = true := by
    intro j hj
    have h1 : (List.range 2).all (fun j => decide ((flatC (Jvm.Cond.and given_1 narrow_1))[340 + j]? = some (Cond.eq (.elem (.field (.string RX12 423) "java/lang/String" "value" "[B") (.int (Int32.ofNat j))) (.int (([103, 111] : List Int32).getD j 0))))) = true := by decide +kernel
    exact hs _ (List.mem_of_getElem? (of_decide_eq_true (List.all_eq_true.mp h1 j (List.mem_range.mpr hj))))
  have h01 : ∀ i : Nat, i < 1 → i = 0 := fun i h => by omega
  obtain ⟨adK, adV, hV, hev⟩ := vk_Sof (args := #[Value.ref b]) (s := s) (N := 1) (tm := fun _ => (.string RX12 423)) (len := [2]) (byt := [[103, 111]]) (A := (fun q : Nat => s.heap.size ≤ q)) (fun i hi => by rw [h01 i hi]; decide) (fun i hi => hs (.exactly (.string RX12 423) "java/lang/String") (List.mem_of_getElem? (i := 336) (by decide +kernel))) (fun i hi => hs (.eq (.field (.string RX12 423) "java/lang/String" "coder" "B") (.int 0)) (List.mem_of_getElem? (i := 337) (by decide +kernel))) (fun i hi => hs (.arrayOf (.field (.string RX12 423) "java/lang/String" "value" "[B") .byte) (List.mem_of_getElem? (i := 338) (by decide +kernel))) (fun i hi => by rw [h01 i hi]; exact hs (.eq (.length (.field (.string RX12 423) "java/lang/String" "value" "[B")) (.int 2)) (List.mem_of_getElem? (i := 339) (by decide +kernel))) (fun i hi j hj => by rw [h01 i hi] at hj ⊢; exact hall j hj) (fun i j hi hj hne => absurd ((h01 i hi).trans (h01 j hj).symm) hne) hO
  obtain ⟨h1, h2, h3, h4⟩ := hV.1 0 (by decide)
  refine ⟨adK 0, adV 0, ⟨h1, h2, h3, h4, ?_, ?_⟩, ?_⟩
  · exact va_Zof (hts (.laysStatic "java/lang/String" "COMPACT_STRINGS" "Z") (rt_pc_in 4 _ (List.mem_of_getElem? (i := 104) (by decide +kernel)))) (hts (.initialized "java/lang/String") (rt_pc_in 1 _ (List.mem_of_getElem? (i := 13) (by decide +kernel)))) (va_eqi (hs (.eq (.static "java/lang/String" "COMPACT_STRINGS" "Z") (.int 1)) (List.mem_of_getElem? (i := 56) (by decide +kernel)))) hO
  · exact va_Zqof (hts (.laysStatic "jdk/internal/util/Preconditions" "SIOOBE_FORMATTER" "Ljava/util/function/BiFunction;") (rt_pc_in 4 _ (List.mem_of_getElem? (i := 120) (by decide +kernel)))) (hts (.initialized "jdk/internal/util/Preconditions") (rt_pc_in 1 _ (List.mem_of_getElem? (i := 15) (by decide +kernel)))) (hs (.isRef (.static "jdk/internal/util/Preconditions" "SIOOBE_FORMATTER" "Ljava/util/function/BiFunction;")) (by decide +kernel)) hO
  · exact vk_R.of (A := #[Value.ref b]) (hts (.stringRef RX12 423 "go") (rt_pc_in 7 _ (List.mem_of_getElem? (i := 145) (by decide +kernel)))) (hev 0 (by decide))
set_option maxRecDepth 100000 in
theorem law_SS {p : Program} {s : State} {m : MethodId} {meth : Method} {c : Code} {b L : Nat} {xs : Nat → Int32} (C0 : lw_At p s m meth c b L xs) : rt_SS (fun q : Nat => s.heap.size ≤ q) s s.heap :=
  List.forall_mem_cons.mpr ⟨law_S0 C0, List.forall_mem_cons.mpr ⟨law_S1 C0, List.forall_mem_cons.mpr ⟨law_S2 C0, List.forall_mem_cons.mpr ⟨law_S3 C0, List.forall_mem_cons.mpr ⟨law_S4 C0, List.forall_mem_cons.mpr ⟨law_S5 C0, List.forall_mem_cons.mpr ⟨law_S6 C0, List.forall_mem_cons.mpr ⟨law_S7 C0, List.forall_mem_cons.mpr ⟨law_S8 C0, List.forall_mem_cons.mpr ⟨law_S9 C0, List.forall_mem_cons.mpr ⟨law_S10 C0, List.forall_mem_cons.mpr ⟨law_S11 C0, List.forall_mem_cons.mpr ⟨law_S12 C0, List.forall_mem_cons.mpr ⟨law_S13 C0, List.forall_mem_cons.mpr ⟨law_S14 C0, List.forall_mem_cons.mpr ⟨law_S15 C0, List.forall_mem_cons.mpr ⟨law_S16 C0, List.forall_mem_cons.mpr ⟨law_S17 C0, List.forall_mem_cons.mpr ⟨law_S18 C0, List.forall_mem_cons.mpr ⟨law_S19 C0, List.forall_mem_cons.mpr ⟨law_S20 C0, List.forall_mem_cons.mpr ⟨law_S21 C0, List.forall_mem_cons.mpr ⟨law_S22 C0, List.forall_mem_cons.mpr ⟨law_S23 C0, List.forall_mem_cons.mpr ⟨law_S24 C0, List.forall_mem_cons.mpr ⟨law_S25 C0, List.forall_mem_cons.mpr ⟨law_S26 C0, List.forall_mem_cons.mpr ⟨law_S27 C0, List.forall_mem_cons.mpr ⟨law_S28 C0, List.forall_mem_cons.mpr ⟨law_S29 C0, List.forall_mem_cons.mpr ⟨law_S30 C0, fun _ h => absurd h List.not_mem_nil⟩⟩⟩⟩⟩⟩⟩⟩⟩⟩⟩⟩⟩⟩⟩⟩⟩⟩⟩⟩⟩⟩⟩⟩⟩⟩⟩⟩⟩⟩⟩
