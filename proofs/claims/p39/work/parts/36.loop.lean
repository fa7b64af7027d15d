theorem ck_L_law_1_36loop : ((cL_law.data.toList).drop 16).take 16 = [3, 62, 29, 42, 190, 16, 6, 100, 163, 7, 24, 42, 29, 46, 16, 63] := by decide +kernel
theorem ck_L_law_2_36loop : ((cL_law.data.toList).drop 32).take 16 = [126, 170, 0, 0, 0, 0, 7, 9, 0, 0, 0, 0, 0, 0, 0, 37] := by decide +kernel
theorem ck_L_law_114_36loop : ((cL_law.data.toList).drop 1824).take 16 = [96, 46, 182, 0, 177, 159, 0, 5, 3, 172, 132, 3, 6, 167, 248, 229] := by decide +kernel
theorem ck_L_law_115_36loop : ((cL_law.data.toList).drop 1840).take 16 = [4, 172] := by decide +kernel
theorem dL_law_18 : decode cL_law 18 = .ok (.iload_n 3, 1) := dk_0 (dk_k29 18) (dk_by (j := 2) rfl ck_L_law_1_36loop rfl rfl rfl)
theorem dL_law_19 : decode cL_law 19 = .ok (.aload_n 0, 1) := dk_0 (dk_k42 19) (dk_by (j := 3) rfl ck_L_law_1_36loop rfl rfl rfl)
theorem dL_law_20 : decode cL_law 20 = .ok (.arraylength, 1) := dk_0 (dk_k190 20) (dk_by (j := 4) rfl ck_L_law_1_36loop rfl rfl rfl)
theorem dL_law_21 : decode cL_law 21 = .ok (.bipush 6, 2) := dk_1 (dk_k16 21) (dk_by (j := 5) rfl ck_L_law_1_36loop rfl rfl rfl) (dk_by (j := 6) rfl ck_L_law_1_36loop rfl rfl rfl) (by decide)
theorem dL_law_23 : decode cL_law 23 = .ok (.isub, 1) := dk_0 (dk_k100 23) (dk_by (j := 7) rfl ck_L_law_1_36loop rfl rfl rfl)
theorem dL_law_24 : decode cL_law 24 = .ok (.if_icmp .gt 1816, 3) := dk_s (dk_k163 24) (dk_by (j := 8) rfl ck_L_law_1_36loop rfl rfl rfl) (dk_by (j := 9) rfl ck_L_law_1_36loop rfl rfl rfl) (dk_by (j := 10) rfl ck_L_law_1_36loop rfl rfl rfl) (by decide)
theorem dL_law_1840 : decode cL_law 1840 = .ok (.iconst 1, 1) := dk_0 (dk_k4 1840) (dk_by (j := 0) rfl ck_L_law_115_36loop rfl rfl rfl)
theorem dL_law_1841 : decode cL_law 1841 = .ok (.ireturn, 1) := dk_0 (dk_k172 1841) (dk_by (j := 1) rfl ck_L_law_115_36loop rfl rfl rfl)
theorem dL_law_1834 : decode cL_law 1834 = .ok (.iinc 3 6, 3) := by decide +kernel
theorem dL_law_1837 : decode cL_law 1837 = .ok (.goto (-1819), 3) := dk_s (dk_k167 1837) (dk_by (j := 13) rfl ck_L_law_114_36loop rfl rfl rfl) (dk_by (j := 14) rfl ck_L_law_114_36loop rfl rfl rfl) (dk_by (j := 15) rfl ck_L_law_114_36loop rfl rfl rfl) (by decide)
theorem dL_law_27 : decode cL_law 27 = .ok (.aload_n 0, 1) := dk_0 (dk_k42 27) (dk_by (j := 11) rfl ck_L_law_1_36loop rfl rfl rfl)
theorem dL_law_28 : decode cL_law 28 = .ok (.iload_n 3, 1) := dk_0 (dk_k29 28) (dk_by (j := 12) rfl ck_L_law_1_36loop rfl rfl rfl)
theorem dL_law_29 : decode cL_law 29 = .ok (.iaload, 1) := dk_0 (dk_k46 29) (dk_by (j := 13) rfl ck_L_law_1_36loop rfl rfl rfl)
theorem dL_law_30 : decode cL_law 30 = .ok (.bipush 63, 2) := dk_1 (dk_k16 30) (dk_by (j := 14) rfl ck_L_law_1_36loop rfl rfl rfl) (dk_by (j := 15) rfl ck_L_law_1_36loop rfl rfl rfl) (by decide)
theorem dL_law_32 : decode cL_law 32 = .ok (.iand, 1) := dk_0 (dk_k126 32) (dk_by (j := 0) rfl ck_L_law_2_36loop rfl rfl rfl)
theorem dL_law_33 : decode cL_law 33 = .ok (.tableswitch 1801 0 37 #[167, 190, 233, 276, 339, 372, 415, 488, 511, 564, 637, 670, 753, 786, 809, 862, 905, 948, 1001, 1024, 1077, 1120, 1173, 1236, 1249, 1272, 1315, 1348, 1391, 1404, 1437, 1490, 1533, 1556, 1599, 1642, 1705, 1768], 167) := by decide +kernel
set_option maxHeartbeats 4000000 in
set_option maxRecDepth 20000 in
/-- the law's loop -/
theorem law_loop {p : Program} {l : Launch} {e : Env} {s : State} {m : MethodId} {below : List Frame} {meth : Method} {c : Code} {D : va_G} {b L : Nat} {xs : Nat → Int32} (C0 : lw_At p s m meth c b L xs) (hL : L ≤ 3072) : ∀ (n : Nat) (nb : Nat) (ad : Nat → Nat → Nat) (C : Nat → Nat → ClassId) (M : fm_M) (H : Heap) (locs : List Loc) (kc sl : Nat) (i : Int32), ((L : Int) - i.toInt).toNat < n → 0 ≤ i.toInt ∧ i.toInt ≤ 3072 → fm_Cx D ad C nb (fun q : Nat => s.heap.size ≤ q) s → fm_at D ad C nb M H → fm_I nb ad M → va_S (fun q : Nat => s.heap.size ≤ q) s.heap H locs → M.1 0 0 10 = M.1 60 0 16 ∧ (∀ j : Nat, j < nb → M.1 50 j 0 = M.1 110 0 j) ∧ (∀ j : Nat, j < nb → M.1 50 j 3 = M.1 113 0 j) → kc ≤ 200 + 2 * i.toInt.toNat → sl ≤ 10000 + 65 * i.toInt.toNat → ∀ ls : Array Slot, lv_has ls 4 [(3, .int i), (2, .ref (ad 60 0)), (1, .ref (ad 0 0)), (0, .ref b)] → W p l e room_1 s m #[Value.ref b] below meth c H locs kc sl (lw_Z below #[Value.ref b] s) (F0 m 18 ls []) := by
  obtain ⟨hx, hb, hr, hml, hown, hts, hX, hbl, hlocks, hgv⟩ := id C0
  have hb : c.code = cL_law := hb
  have hbA : ¬ (fun q : Nat => s.heap.size ≤ q) b := Nat.not_le.mpr hbl
  have tL : (Int32.ofNat L).toInt = L := Int32.toInt_ofNat_of_lt (by omega)
  intro n
  induction n with
  | zero => intro nb ad C M H locs kc sl i hm; exact absurd hm (Nat.not_lt_zero _)
  | succ n ih =>
    intro nb ad C M H locs kc sl i hm hi hc hw hI hS hrel hkc hsl ls hl
    refine lv_iload_n hx hb dL_law_18 rfl (lv_at hl 0 rfl) ?_
    refine lv_aload_n hx hb dL_law_19 rfl (lv_at hl 3 rfl) ?_
    refine va_slen hx hb hX hbl hbA hS dL_law_20 ?_
    refine lv_bipush (v := 6) hx hb dL_law_21 (by decide) ?_
    refine fx_isub hx hb dL_law_23 tL zk_6 (by omega) (fun y1 ey1 ty1 => ?_)
    refine fx_icmp_gt (tgt := 1840) hx hb dL_law_24 (by decide) rfl rfl (fun c1 => ?_) (fun c1 => ?_)
    · refine lv_iconst (v := 1) hx hb dL_law_1840 (by decide) ?_
      refine va_forget (fun q hq => hS.2.2 q hq) ?_
      refine W.widen (k := 600000) (n := 7302250) (by omega) (by omega) ?_
      exact lw_ret hx hb hr hlocks dL_law_1841
    have next : ∀ (nb : Nat) (ad : Nat → Nat → Nat) (C : Nat → Nat → ClassId) (M : fm_M) (H : Heap) (locs : List Loc) (kc sl : Nat), fm_Cx D ad C nb (fun q : Nat => s.heap.size ≤ q) s → fm_at D ad C nb M H → fm_I nb ad M → va_S (fun q : Nat => s.heap.size ≤ q) s.heap H locs → M.1 0 0 10 = M.1 60 0 16 ∧ (∀ j : Nat, j < nb → M.1 50 j 0 = M.1 110 0 j) ∧ (∀ j : Nat, j < nb → M.1 50 j 3 = M.1 113 0 j) → kc ≤ 207 + 2 * i.toInt.toNat → sl ≤ 10387 + 65 * i.toInt.toNat → ∀ ls : Array Slot, lv_has ls 4 [(3, .int i), (2, .ref (ad 60 0)), (1, .ref (ad 0 0)), (0, .ref b)] → W p l e room_1 s m #[Value.ref b] below meth c H locs kc sl (lw_Z below #[Value.ref b] s) (F0 m 1834 ls []) := by
      intro nb ad C M H locs kc sl hc hw hI hS hrel hkc hsl ls hl
      obtain ⟨j, ej⟩ : ∃ j : Int32, j = i + 6 := ⟨_, rfl⟩
      have tj : j.toInt = i.toInt + 6 := by rw [ej, zi_add _ _ (by rw [zk_6]; omega) (by rw [zk_6]; omega), zk_6]
      refine lv_iinc (v := j) (lv' := [(3, .int j), (2, .ref (ad 60 0)), (1, .ref (ad 0 0)), (0, .ref b)]) hx hb dL_law_1834 hl (k := 0) rfl (by rw [ej]; rfl) (by decide) rfl (fun ls hl => ?_)
      refine lv_goto (tgt := 18) hx hb dL_law_1837 (by decide) ?_
      exact ih nb ad C M H locs kc sl j (by omega) (by omega) hc hw hI hS hrel (by omega) (by omega) ls hl
    refine lv_aload_n hx hb dL_law_27 rfl (lv_at hl 3 rfl) ?_
    refine lv_iload_n hx hb dL_law_28 rfl (lv_at hl 0 rfl) ?_
    refine va_sld hx hb hX hbl hbA hS (fm_in (by omega)) dL_law_29 ?_
    refine lv_bipush (v := 63) hx hb dL_law_30 (by decide) ?_
    refine lv_iand hx hb dL_law_32 ?_
    obtain ⟨j, hj, ej⟩ := pk_andE (xs i.toNatClampNeg) (m := 63) 6 (by decide)
    rw [show xs i.toNatClampNeg &&& 63 = nI j from ej]
    clear ej
    match j, hj with
    | 0, _ =>
      refine lv_tableIn (off := 167) (tgt := 200) hx hb dL_law_33 (by decide) (by decide) (by decide) (by decide) ?_
      exact lb_0 C0 (by omega) (by omega) hc hw hI hS (by omega) hL hrel (fun M1 H1 locs1 h1 h2 h3 h4 ls hl => next nb ad C M1 H1 locs1 kc sl hc h1 h2 h3 h4 (by omega) (by omega) ls hl) ls hl
    | 1, _ =>
      refine lv_tableIn (off := 190) (tgt := 223) hx hb dL_law_33 (by decide) (by decide) (by decide) (by decide) ?_
      exact lb_1 C0 (by omega) (by omega) hc hw hI hS (by omega) hL hrel (fun M1 H1 locs1 h1 h2 h3 h4 ls hl => next nb ad C M1 H1 locs1 kc sl hc h1 h2 h3 h4 (by omega) (by omega) ls hl) ls hl
    | 2, _ =>
      refine lv_tableIn (off := 233) (tgt := 266) hx hb dL_law_33 (by decide) (by decide) (by decide) (by decide) ?_
      exact lb_2 C0 (by omega) (by omega) hc hw hI hS (by omega) hL hrel (fun M1 H1 locs1 h1 h2 h3 h4 ls hl => next nb ad C M1 H1 locs1 kc sl hc h1 h2 h3 h4 (by omega) (by omega) ls hl) ls hl
    | 3, _ =>
      refine lv_tableIn (off := 276) (tgt := 309) hx hb dL_law_33 (by decide) (by decide) (by decide) (by decide) ?_
      exact lb_3 C0 (by omega) (by omega) hc hw hI hS (by omega) hL hrel (fun nb ad C M1 H1 locs1 hc1 h1 h2 h3 h4 ls hl => next nb ad C M1 H1 locs1 _ _ hc1 h1 h2 h3 h4 (by omega) (by omega) ls hl) ls hl
    | 4, _ =>
      refine lv_tableIn (off := 339) (tgt := 372) hx hb dL_law_33 (by decide) (by decide) (by decide) (by decide) ?_
      exact lb_4 C0 (by omega) (by omega) hc hw hI hS (by omega) hL hrel (fun M1 H1 locs1 h1 h2 h3 h4 ls hl => next nb ad C M1 H1 locs1 kc sl hc h1 h2 h3 h4 (by omega) (by omega) ls hl) ls hl
    | 5, _ =>
      refine lv_tableIn (off := 372) (tgt := 405) hx hb dL_law_33 (by decide) (by decide) (by decide) (by decide) ?_
      exact lb_5 C0 (by omega) (by omega) hc hw hI hS (by omega) hL hrel (fun M1 H1 locs1 h1 h2 h3 h4 ls hl => next nb ad C M1 H1 locs1 kc sl hc h1 h2 h3 h4 (by omega) (by omega) ls hl) ls hl
    | 6, _ =>
      refine lv_tableIn (off := 415) (tgt := 448) hx hb dL_law_33 (by decide) (by decide) (by decide) (by decide) ?_
      exact lb_6 C0 (by omega) (by omega) hc hw hI hS (by omega) hL hrel (fun M1 H1 locs1 h1 h2 h3 h4 ls hl => next nb ad C M1 H1 locs1 kc sl hc h1 h2 h3 h4 (by omega) (by omega) ls hl) ls hl
    | 7, _ =>
      refine lv_tableIn (off := 488) (tgt := 521) hx hb dL_law_33 (by decide) (by decide) (by decide) (by decide) ?_
      exact lb_7 C0 (by omega) (by omega) hc hw hI hS (by omega) hL hrel (fun M1 H1 locs1 h1 h2 h3 h4 ls hl => next nb ad C M1 H1 locs1 kc sl hc h1 h2 h3 h4 (by omega) (by omega) ls hl) ls hl
    | 8, _ =>
      refine lv_tableIn (off := 511) (tgt := 544) hx hb dL_law_33 (by decide) (by decide) (by decide) (by decide) ?_
      exact lb_8 C0 (by omega) (by omega) hc hw hI hS (by omega) hL hrel (fun M1 H1 locs1 h1 h2 h3 h4 ls hl => next nb ad C M1 H1 locs1 kc sl hc h1 h2 h3 h4 (by omega) (by omega) ls hl) ls hl
    | 9, _ =>
      refine lv_tableIn (off := 564) (tgt := 597) hx hb dL_law_33 (by decide) (by decide) (by decide) (by decide) ?_
      exact lb_9 C0 (by omega) (by omega) hc hw hI hS (by omega) hL hrel (fun M1 H1 locs1 h1 h2 h3 h4 ls hl => next nb ad C M1 H1 locs1 kc sl hc h1 h2 h3 h4 (by omega) (by omega) ls hl) ls hl
    | 10, _ =>
      refine lv_tableIn (off := 637) (tgt := 670) hx hb dL_law_33 (by decide) (by decide) (by decide) (by decide) ?_
      exact lb_10 C0 (by omega) (by omega) hc hw hI hS (by omega) hL hrel (fun M1 H1 locs1 h1 h2 h3 h4 ls hl => next nb ad C M1 H1 locs1 kc sl hc h1 h2 h3 h4 (by omega) (by omega) ls hl) ls hl
    | 11, _ =>
      refine lv_tableIn (off := 670) (tgt := 703) hx hb dL_law_33 (by decide) (by decide) (by decide) (by decide) ?_
      exact lb_11 C0 (by omega) (by omega) hc hw hI hS (by omega) hL hrel (fun M1 H1 locs1 h1 h2 h3 h4 ls hl => next nb ad C M1 H1 locs1 kc sl hc h1 h2 h3 h4 (by omega) (by omega) ls hl) ls hl
    | 12, _ =>
      refine lv_tableIn (off := 753) (tgt := 786) hx hb dL_law_33 (by decide) (by decide) (by decide) (by decide) ?_
      exact lb_12 C0 (by omega) (by omega) hc hw hI hS (by omega) hL hrel (fun M1 H1 locs1 h1 h2 h3 h4 ls hl => next nb ad C M1 H1 locs1 kc sl hc h1 h2 h3 h4 (by omega) (by omega) ls hl) ls hl
    | 13, _ =>
      refine lv_tableIn (off := 786) (tgt := 819) hx hb dL_law_33 (by decide) (by decide) (by decide) (by decide) ?_
      exact lb_13 C0 (by omega) (by omega) hc hw hI hS (by omega) hL hrel (fun M1 H1 locs1 h1 h2 h3 h4 ls hl => next nb ad C M1 H1 locs1 kc sl hc h1 h2 h3 h4 (by omega) (by omega) ls hl) ls hl
    | 14, _ =>
      refine lv_tableIn (off := 809) (tgt := 842) hx hb dL_law_33 (by decide) (by decide) (by decide) (by decide) ?_
      exact lb_14 C0 (by omega) (by omega) hc hw hI hS (by omega) hL hrel (fun M1 H1 locs1 h1 h2 h3 h4 ls hl => next nb ad C M1 H1 locs1 kc sl hc h1 h2 h3 h4 (by omega) (by omega) ls hl) ls hl
    | 15, _ =>
      refine lv_tableIn (off := 862) (tgt := 895) hx hb dL_law_33 (by decide) (by decide) (by decide) (by decide) ?_
      exact lb_15 C0 (by omega) (by omega) hc hw hI hS (by omega) hL hrel (fun M1 H1 locs1 h1 h2 h3 h4 ls hl => next nb ad C M1 H1 locs1 kc sl hc h1 h2 h3 h4 (by omega) (by omega) ls hl) ls hl
    | 16, _ =>
      refine lv_tableIn (off := 905) (tgt := 938) hx hb dL_law_33 (by decide) (by decide) (by decide) (by decide) ?_
      exact lb_16 C0 (by omega) (by omega) hc hw hI hS (by omega) hL hrel (fun M1 H1 locs1 h1 h2 h3 h4 ls hl => next nb ad C M1 H1 locs1 kc sl hc h1 h2 h3 h4 (by omega) (by omega) ls hl) ls hl
    | 17, _ =>
      refine lv_tableIn (off := 948) (tgt := 981) hx hb dL_law_33 (by decide) (by decide) (by decide) (by decide) ?_
      exact lb_17 C0 (by omega) (by omega) hc hw hI hS (by omega) hL hrel (fun M1 H1 locs1 h1 h2 h3 h4 ls hl => next nb ad C M1 H1 locs1 kc sl hc h1 h2 h3 h4 (by omega) (by omega) ls hl) ls hl
    | 18, _ =>
      refine lv_tableIn (off := 1001) (tgt := 1034) hx hb dL_law_33 (by decide) (by decide) (by decide) (by decide) ?_
      exact lb_18 C0 (by omega) (by omega) hc hw hI hS (by omega) hL hrel (fun M1 H1 locs1 h1 h2 h3 h4 ls hl => next nb ad C M1 H1 locs1 kc sl hc h1 h2 h3 h4 (by omega) (by omega) ls hl) ls hl
    | 19, _ =>
      refine lv_tableIn (off := 1024) (tgt := 1057) hx hb dL_law_33 (by decide) (by decide) (by decide) (by decide) ?_
      exact lb_19 C0 (by omega) (by omega) hc hw hI hS (by omega) hL hrel (fun M1 H1 locs1 h1 h2 h3 h4 ls hl => next nb ad C M1 H1 locs1 kc sl hc h1 h2 h3 h4 (by omega) (by omega) ls hl) ls hl
    | 20, _ =>
      refine lv_tableIn (off := 1077) (tgt := 1110) hx hb dL_law_33 (by decide) (by decide) (by decide) (by decide) ?_
      exact lb_20 C0 (by omega) (by omega) hc hw hI hS (by omega) hL hrel (fun M1 H1 locs1 h1 h2 h3 h4 ls hl => next nb ad C M1 H1 locs1 kc sl hc h1 h2 h3 h4 (by omega) (by omega) ls hl) ls hl
    | 21, _ =>
      refine lv_tableIn (off := 1120) (tgt := 1153) hx hb dL_law_33 (by decide) (by decide) (by decide) (by decide) ?_
      exact lb_21 C0 (by omega) (by omega) hc hw hI hS (by omega) hL hrel (fun M1 H1 locs1 h1 h2 h3 h4 ls hl => next nb ad C M1 H1 locs1 kc sl hc h1 h2 h3 h4 (by omega) (by omega) ls hl) ls hl
    | 22, _ =>
      refine lv_tableIn (off := 1173) (tgt := 1206) hx hb dL_law_33 (by decide) (by decide) (by decide) (by decide) ?_
      exact lb_22 C0 (by omega) (by omega) hc hw hI hS (by omega) hL hrel (fun M1 H1 locs1 h1 h2 h3 h4 ls hl => next nb ad C M1 H1 locs1 kc sl hc h1 h2 h3 h4 (by omega) (by omega) ls hl) ls hl
    | 23, _ =>
      refine lv_tableIn (off := 1236) (tgt := 1269) hx hb dL_law_33 (by decide) (by decide) (by decide) (by decide) ?_
      exact lb_23 C0 (by omega) (by omega) hc hw hI hS (by omega) hL hrel (fun M1 H1 locs1 h1 h2 h3 h4 ls hl => next nb ad C M1 H1 locs1 kc sl hc h1 h2 h3 h4 (by omega) (by omega) ls hl) ls hl
    | 24, _ =>
      refine lv_tableIn (off := 1249) (tgt := 1282) hx hb dL_law_33 (by decide) (by decide) (by decide) (by decide) ?_
      exact lb_24 C0 (by omega) (by omega) hc hw hI hS (by omega) hL hrel (fun M1 H1 locs1 h1 h2 h3 h4 ls hl => next nb ad C M1 H1 locs1 kc sl hc h1 h2 h3 h4 (by omega) (by omega) ls hl) ls hl
    | 25, _ =>
      refine lv_tableIn (off := 1272) (tgt := 1305) hx hb dL_law_33 (by decide) (by decide) (by decide) (by decide) ?_
      exact lb_25 C0 (by omega) (by omega) hc hw hI hS (by omega) hL hrel (fun M1 H1 locs1 h1 h2 h3 h4 ls hl => next nb ad C M1 H1 locs1 kc sl hc h1 h2 h3 h4 (by omega) (by omega) ls hl) ls hl
    | 26, _ =>
      refine lv_tableIn (off := 1315) (tgt := 1348) hx hb dL_law_33 (by decide) (by decide) (by decide) (by decide) ?_
      exact lb_26 C0 (by omega) (by omega) hc hw hI hS (by omega) hL hrel (fun M1 H1 locs1 h1 h2 h3 h4 ls hl => next nb ad C M1 H1 locs1 kc sl hc h1 h2 h3 h4 (by omega) (by omega) ls hl) ls hl
    | 27, _ =>
      refine lv_tableIn (off := 1348) (tgt := 1381) hx hb dL_law_33 (by decide) (by decide) (by decide) (by decide) ?_
      exact lb_27 C0 (by omega) (by omega) hc hw hI hS (by omega) hL hrel (fun M1 H1 locs1 h1 h2 h3 h4 ls hl => next nb ad C M1 H1 locs1 kc sl hc h1 h2 h3 h4 (by omega) (by omega) ls hl) ls hl
    | 28, _ =>
      refine lv_tableIn (off := 1391) (tgt := 1424) hx hb dL_law_33 (by decide) (by decide) (by decide) (by decide) ?_
      exact lb_28 C0 (by omega) (by omega) hc hw hI hS (by omega) hL hrel (fun M1 H1 locs1 h1 h2 h3 h4 ls hl => next nb ad C M1 H1 locs1 kc sl hc h1 h2 h3 h4 (by omega) (by omega) ls hl) ls hl
    | 29, _ =>
      refine lv_tableIn (off := 1404) (tgt := 1437) hx hb dL_law_33 (by decide) (by decide) (by decide) (by decide) ?_
      exact lb_29 C0 (by omega) (by omega) hc hw hI hS (by omega) hL hrel (fun M1 H1 locs1 h1 h2 h3 h4 ls hl => next nb ad C M1 H1 locs1 kc sl hc h1 h2 h3 h4 (by omega) (by omega) ls hl) ls hl
    | 30, _ =>
      refine lv_tableIn (off := 1437) (tgt := 1470) hx hb dL_law_33 (by decide) (by decide) (by decide) (by decide) ?_
      exact lb_30 C0 (by omega) (by omega) hc hw hI hS (by omega) hL hrel (fun M1 H1 locs1 h1 h2 h3 h4 ls hl => next nb ad C M1 H1 locs1 kc sl hc h1 h2 h3 h4 (by omega) (by omega) ls hl) ls hl
    | 31, _ =>
      refine lv_tableIn (off := 1490) (tgt := 1523) hx hb dL_law_33 (by decide) (by decide) (by decide) (by decide) ?_
      exact lb_31 C0 (by omega) (by omega) hc hw hI hS (by omega) hL hrel (fun M1 H1 locs1 h1 h2 h3 h4 ls hl => next nb ad C M1 H1 locs1 kc sl hc h1 h2 h3 h4 (by omega) (by omega) ls hl) ls hl
    | 32, _ =>
      refine lv_tableIn (off := 1533) (tgt := 1566) hx hb dL_law_33 (by decide) (by decide) (by decide) (by decide) ?_
      exact lb_32 C0 (by omega) (by omega) hc hw hI hS (by omega) hL hrel (fun M1 H1 locs1 h1 h2 h3 h4 ls hl => next nb ad C M1 H1 locs1 kc sl hc h1 h2 h3 h4 (by omega) (by omega) ls hl) ls hl
    | 33, _ =>
      refine lv_tableIn (off := 1556) (tgt := 1589) hx hb dL_law_33 (by decide) (by decide) (by decide) (by decide) ?_
      exact lb_33 C0 (by omega) (by omega) hc hw hI hS (by omega) hL hrel (fun M1 H1 locs1 h1 h2 h3 h4 ls hl => next nb ad C M1 H1 locs1 kc sl hc h1 h2 h3 h4 (by omega) (by omega) ls hl) ls hl
    | 34, _ =>
      refine lv_tableIn (off := 1599) (tgt := 1632) hx hb dL_law_33 (by decide) (by decide) (by decide) (by decide) ?_
      exact lb_34 C0 (by omega) (by omega) hc hw hI hS (by omega) hL hrel (fun M1 H1 locs1 h1 h2 h3 h4 ls hl => next nb ad C M1 H1 locs1 kc sl hc h1 h2 h3 h4 (by omega) (by omega) ls hl) ls hl
    | 35, _ =>
      refine lv_tableIn (off := 1642) (tgt := 1675) hx hb dL_law_33 (by decide) (by decide) (by decide) (by decide) ?_
      exact lb_35 C0 (by omega) (by omega) hc hw hI hS (by omega) hL hrel (fun M1 H1 locs1 h1 h2 h3 h4 ls hl => next nb ad C M1 H1 locs1 kc sl hc h1 h2 h3 h4 (by omega) (by omega) ls hl) ls hl
    | 36, _ =>
      refine lv_tableIn (off := 1705) (tgt := 1738) hx hb dL_law_33 (by decide) (by decide) (by decide) (by decide) ?_
      exact lb_36 C0 (by omega) (by omega) hc hw hI hS (by omega) hL hrel (fun M1 H1 locs1 h1 h2 h3 h4 ls hl => next nb ad C M1 H1 locs1 kc sl hc h1 h2 h3 h4 (by omega) (by omega) ls hl) ls hl
    | 37, _ =>
      refine lv_tableIn (off := 1768) (tgt := 1801) hx hb dL_law_33 (by decide) (by decide) (by decide) (by decide) ?_
      exact lb_37 C0 (by omega) (by omega) hc hw hI hS (by omega) hL hrel (fun M1 H1 locs1 h1 h2 h3 h4 ls hl => next nb ad C M1 H1 locs1 kc sl hc h1 h2 h3 h4 (by omega) (by omega) ls hl) ls hl
    | j + 38, hj =>
      refine lv_tableOut (tgt := 1834) hx hb dL_law_33 (Or.inr (by rw [nI_toInt (by omega)]; omega)) (by decide) ?_
      exact next nb ad C M H locs kc sl hc hw hI hS hrel (by omega) (by omega) ls hl
