def rt_lk : List ((Nat × Nat) × (Nat × va_E)) → Nat → Nat → Option (Nat × va_E)
  | [], _, _ => none
  | (q, x) :: r, a, k => if q.1 = a ∧ q.2 = k then some x else rt_lk r a k
theorem rt_lk_mem {Z : List ((Nat × Nat) × (Nat × va_E))} {a k : Nat} {x : Nat × va_E} (h : rt_lk Z a k = some x) : ((a, k), x) ∈ Z := by
  induction Z with
  | nil => exact absurd h (by intro h; cases h)
  | cons z r ih =>
    obtain ⟨q, y⟩ := z
    rw [rt_lk] at h
    by_cases c : q.1 = a ∧ q.2 = k
    · rw [if_pos c] at h
      cases h
      obtain ⟨q1, q2⟩ := q
      obtain ⟨rfl, rfl⟩ := c
      exact List.mem_cons_self
    · rw [if_neg c] at h
      exact List.mem_cons_of_mem _ (ih h)
def rt_cI (e : va_E) (j : Nat) : Int32 := match e with
  | .inl (_, _, .inl V) => V j
  | .inr (_, fs) => (match fs.getD j .null with
    | .int x => x
    | _ => 0)
  | _ => 0
def rt_cL (e : va_E) (j : Nat) : Int64 := match e with
  | .inl (_, _, .inr (.inl V)) => V j
  | .inr (_, fs) => (match fs.getD j .null with
    | .long x => x
    | _ => 0)
  | _ => 0
def rt_cG (e : va_E) (j : Nat) : Option Nat := match e with
  | .inl (_, _, .inr (.inr (.inr (.inr V)))) => V j
  | .inr (_, fs) => (match fs.getD j .null with
    | .ref x => some x
    | _ => none)
  | _ => none
def rt_cC (c0 : ClassId) (e : va_E) : ClassId := match e with
  | .inl (c, _) => c
  | _ => c0
def m0_ad (Z : List ((Nat × Nat) × (Nat × va_E))) (a k : Nat) : Nat := match rt_lk Z a k with
  | some x => x.1
  | none => 0
def m0_C (c0 : ClassId) (Z : List ((Nat × Nat) × (Nat × va_E))) (a k : Nat) : ClassId := match rt_lk Z a k with
  | some x => rt_cC c0 x.2
  | none => c0
def m0_M (Z : List ((Nat × Nat) × (Nat × va_E))) : fm_M := (fun a k => match rt_lk Z a k with
  | some x => rt_cI x.2
  | none => fun _ => 0, fun a k => match rt_lk Z a k with
  | some x => rt_cL x.2
  | none => fun _ => 0, fun a k => match rt_lk Z a k with
  | some x => rt_cG x.2
  | none => fun _ => none)
theorem m0_of {c0 : ClassId} {Z : List ((Nat × Nat) × (Nat × va_E))} {a k : Nat} {x : Nat × va_E} (h : rt_lk Z a k = some x) : m0_ad Z a k = x.1 ∧ m0_C c0 Z a k = rt_cC c0 x.2 ∧ (m0_M Z).1 a k = rt_cI x.2 ∧ (m0_M Z).2.1 a k = rt_cL x.2 ∧ (m0_M Z).2.2 a k = rt_cG x.2 := by
  unfold m0_ad m0_C m0_M
  simp only [h]
  exact ⟨trivial, trivial, trivial, trivial, trivial⟩
theorem rt_cz {ci : Nat} {fs : List Value} (h : ∀ v ∈ fs, ∀ x, v = .int x → x = 0) (j : Nat) : rt_cI (.inr (ci, fs)) j = 0 := by
  show (match fs.getD j .null with | .int x => x | _ => 0) = _
  rw [List.getD_eq_getElem?_getD]
  cases hq : fs[j]? with
  | none => rfl
  | some v =>
    have hv := h v (List.mem_of_getElem? hq)
    cases v <;> first | rfl | exact hv _ rfl
theorem rt_lk_all {Z : List ((Nat × Nat) × (Nat × va_E))} (h : (Z.map (fun z => z.1)).Nodup) : ∀ z ∈ Z, rt_lk Z z.1.1 z.1.2 = some z.2 := by
  induction Z with
  | nil => exact fun z hz => absurd hz List.not_mem_nil
  | cons y r ih =>
    rw [List.map_cons, List.nodup_cons] at h
    intro z hz
    rcases List.mem_cons.mp hz with rfl | hz
    · rw [rt_lk, if_pos ⟨rfl, rfl⟩]
    · rw [rt_lk, if_neg (fun q => h.1 (by
        have e : y.1 = z.1 := Prod.ext q.1 q.2
        show y.1 ∈ _
        rw [e]
        exact List.mem_map_of_mem hz))]
      exact ih h.2 z hz
def m0_TG : List (Nat × Nat) := [(0, 0), (0, 1), (0, 2), (0, 3), (0, 4), (0, 5), (0, 6), (0, 7), (0, 8), (1, 0), (1, 1), (5, 0), (5, 2), (5, 3), (5, 4), (5, 5), (5, 6), (5, 7), (5, 9), (5, 10), (5, 11), (16, 0), (16, 2), (16, 4), (16, 5), (21, 0), (21, 1), (21, 2), (21, 3), (21, 4), (27, 0), (27, 2), (27, 5), (27, 6), (27, 7), (32, 2), (32, 3), (32, 4), (32, 5), (36, 0), (38, 0), (38, 1), (38, 2), (42, 0), (46, 0), (48, 0), (50, 6), (50, 7), (50, 8), (50, 10), (50, 11), (50, 13), (60, 2), (60, 3), (60, 4), (60, 6), (60, 7), (60, 8), (60, 10), (60, 11), (60, 12), (60, 13), (60, 14), (60, 15), (60, 17), (60, 18), (60, 19), (60, 20), (60, 22), (60, 24), (60, 25), (60, 26), (60, 27), (60, 28), (60, 29), (60, 31), (60, 32), (60, 33), (60, 35), (60, 37), (60, 38), (60, 39), (60, 40), (60, 41), (60, 42), (60, 43), (60, 45), (60, 46), (60, 47), (60, 49), (60, 51), (60, 53), (60, 54), (60, 57), (60, 59), (60, 60), (60, 68), (60, 71), (60, 72), (60, 73), (60, 74), (60, 75), (60, 76), (60, 77), (60, 78)]
def m0_NL : List (Nat × Nat) := [(0, 0), (1, 0), (2, 0), (3, 0), (4, 0), (5, 0), (6, 0), (7, 0), (8, 0), (9, 0), (10, 0), (11, 0), (12, 0), (13, 0), (14, 0), (15, 0), (16, 0), (17, 0), (18, 0), (19, 0), (20, 0), (21, 0), (22, 0), (23, 0), (24, 0), (25, 0), (26, 0), (27, 0), (28, 0), (29, 0), (30, 0), (31, 0), (32, 0), (33, 0), (34, 0), (35, 0), (36, 0), (37, 0), (48, 0), (49, 0), (48, 1), (49, 1), (48, 2), (49, 2), (48, 3), (49, 3), (48, 4), (49, 4), (48, 5), (49, 5), (38, 0), (39, 0), (40, 0), (41, 0), (42, 0), (43, 0), (44, 0), (44, 1), (44, 2), (44, 3), (45, 0), (46, 0), (47, 0), (46, 1), (47, 1), (46, 2), (47, 2), (46, 3), (47, 3), (60, 0), (102, 0), (103, 0), (104, 0), (106, 0), (107, 0), (108, 0), (110, 0), (111, 0), (112, 0), (113, 0), (114, 0), (115, 0), (117, 0), (118, 0), (119, 0), (120, 0), (122, 0), (124, 0), (125, 0), (126, 0), (127, 0), (128, 0), (129, 0), (131, 0), (132, 0), (133, 0), (135, 0), (137, 0), (138, 0), (139, 0), (140, 0), (141, 0), (142, 0), (143, 0), (145, 0), (146, 0), (147, 0), (149, 0), (151, 0), (153, 0), (154, 0), (157, 0), (159, 0), (160, 0), (168, 0), (171, 0), (172, 0), (173, 0), (174, 0), (175, 0), (176, 0), (177, 0), (178, 0)]
theorem m0_nd : m0_NL.Nodup := by decide +kernel
theorem m0_tg (a j : Nat) (h : fm_tg a j ≠ 0) : (a, j) ∈ m0_TG := by
  have h0 : (fm_tgs.drop 61).all (fun l => l.isEmpty) = true := by decide +kernel
  have key : (List.range 61).all (fun a => (List.range (fm_tgs.getD a []).length).all (fun j => decide (fm_tg a j = 0) || decide ((a, j) ∈ m0_TG))) = true := by decide +kernel
  have hj : j < (fm_tgs.getD a []).length := by
    refine Nat.lt_of_not_le fun hj => h ?_
    unfold fm_tg
    rw [List.getD_eq_getElem?_getD, List.getElem?_eq_none hj]
    rfl
  have ha : a < 61 := by
    refine Nat.lt_of_not_le fun ha => ?_
    have e : fm_tgs.getD a [] = [] := by
      rw [List.getD_eq_getElem?_getD]
      cases hq : fm_tgs[a]? with
      | none => rfl
      | some l =>
        have hm : l ∈ fm_tgs.drop 61 := by
          refine List.mem_of_getElem? (i := a - 61) ?_
          rw [List.getElem?_drop, show 61 + (a - 61) = a by omega]
          exact hq
        exact List.isEmpty_iff.mp (List.all_eq_true.mp h0 l hm)
    rw [e] at hj
    exact Nat.not_lt_zero _ hj
  have h1 := List.all_eq_true.mp (List.all_eq_true.mp key a (List.mem_range.mpr ha)) j (List.mem_range.mpr hj)
  rcases Bool.or_eq_true_iff.mp h1 with h2 | h2
  · exact absurd (of_decide_eq_true h2) h
  · exact of_decide_eq_true h2
theorem m0_nl (a k : Nat) (h : k < fm_ct 0 a) : (a, k) ∈ m0_NL := by
  have h0 : fm_cts.length ≤ 179 := by decide +kernel
  have key : (List.range 179).all (fun a => (List.range (fm_ct 0 a)).all (fun k => decide ((a, k) ∈ m0_NL))) = true := by decide +kernel
  have ha : a < 179 := by
    refine Nat.lt_of_not_le fun ha => ?_
    unfold fm_ct at h
    rw [if_neg (by omega), List.getD_eq_getElem?_getD, List.getElem?_eq_none (Nat.le_trans h0 ha)] at h
    exact Nat.not_lt_zero _ h
  exact of_decide_eq_true (List.all_eq_true.mp (List.all_eq_true.mp key a (List.mem_range.mpr ha)) k (List.mem_range.mpr h))
