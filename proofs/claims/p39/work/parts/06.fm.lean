abbrev fm_M : Type := (Nat → Nat → Nat → Int32) × (Nat → Nat → Nat → Int64) × (Nat → Nat → Nat → Option Nat)
def fm_fv (V : Nat → Int32) (L : Nat → Int64) (G : Nat → Option Nat) (q : Nat × Nat) : Value := match q.2 with
  | 0 => .int (V q.1)
  | 1 => .long (L q.1)
  | _ => va_rf (G q.1)
def fm_e (c : ClassId) (V : Nat → Int32) (L : Nat → Int64) (G : Nat → Option Nat) (sh : Nat × Nat × List (Nat × Nat)) : va_E := match sh.1 with
  | 0 => .inl (c, sh.2.1, .inl V)
  | 1 => .inl (c, sh.2.1, .inr (.inl L))
  | 2 => .inl (c, sh.2.1, .inr (.inr (.inr (.inr G))))
  | _ => .inr (sh.2.1, sh.2.2.map (fm_fv V L G))
def fm_shs : List (Nat × Nat × List (Nat × Nat)) := [(3, 11, [(0, 2), (1, 2), (2, 2), (3, 2), (4, 2), (5, 2), (6, 2), (7, 2), (8, 2), (9, 0), (10, 0), (11, 0), (12, 0)]), (3, 10, [(0, 2), (1, 2), (2, 0), (3, 0)]), (0, 240, []), (0, 240, []), (2, 12, []), (3, 4, [(0, 2), (1, 0), (2, 2), (3, 2), (4, 2), (5, 2), (6, 2), (7, 2), (8, 0), (9, 2), (10, 2), (11, 2), (12, 0)]), (0, 6, []), (0, 8, []), (0, 8, []), (0, 20, []), (0, 20, []), (0, 20, []), (1, 20, []), (0, 40, []), (0, 40, []), (1, 40, []), (3, 6, [(0, 2), (1, 0), (2, 2), (3, 1), (4, 2), (5, 2), (6, 1)]), (1, 16, []), (1, 64, []), (0, 3, []), (0, 3, []), (3, 2, [(0, 2), (1, 2), (2, 2), (3, 2), (4, 2), (5, 0)]), (0, 16, []), (0, 16, []), (0, 16, []), (0, 16, []), (0, 16, []), (3, 3, [(0, 2), (1, 0), (2, 2), (3, 0), (4, 0), (5, 2), (6, 2), (7, 2)]), (0, 160, []), (2, 6, []), (0, 6, []), (0, 64, []), (3, 5, [(0, 2), (1, 0), (2, 2), (3, 2), (4, 2), (5, 2), (6, 0), (7, 0)]), (0, 161, []), (0, 161, []), (0, 161, []), (3, 9, [(0, 2), (1, 0), (2, 0)]), (0, 160, []), (3, 8, [(0, 2), (1, 2), (2, 2), (3, 0)]), (0, 20, []), (0, 20, []), (0, 20, []), (3, 1, [(0, 2), (1, 0), (2, 0), (3, 0)]), (2, 4, []), (0, 15, []), (2, 4, []), (3, 7, [(0, 2), (1, 0), (2, 0)]), (0, 40, []), (3, 9, [(0, 2), (1, 0), (2, 0)]), (0, 160, []), (3, 0, [(0, 0), (1, 0), (2, 0), (3, 0), (4, 0), (5, 0), (6, 2), (7, 2), (8, 2), (9, 0), (10, 2), (11, 2), (12, 0), (13, 2), (14, 0)]), (0, 40, []), (0, 40, []), (1, 40, []), (0, 6, []), (0, 6, []), (1, 240, []), (9, 0, []), (9, 0, []), (9, 0, []), (3, 12, [(0, 0), (1, 0), (2, 2), (3, 2), (4, 2), (5, 0), (6, 2), (7, 2), (8, 2), (9, 0), (10, 2), (11, 2), (12, 2), (13, 2), (14, 2), (15, 2), (16, 0), (17, 2), (18, 2), (19, 2), (20, 2), (21, 0), (22, 2), (23, 0), (24, 2), (25, 2), (26, 2), (27, 2), (28, 2), (29, 2), (30, 0), (31, 2), (32, 2), (33, 2), (34, 0), (35, 2), (36, 0), (37, 2), (38, 2), (39, 2), (40, 2), (41, 2), (42, 2), (43, 2), (44, 0), (45, 2), (46, 2), (47, 2), (48, 0), (49, 2), (50, 0), (51, 2), (52, 0), (53, 2), (54, 2), (55, 0), (56, 0), (57, 2), (58, 1), (59, 2), (60, 2), (61, 1), (62, 0), (63, 0), (64, 0), (65, 0), (66, 0), (67, 0), (68, 2), (69, 0), (70, 0), (71, 2), (72, 2), (73, 2), (74, 2), (75, 2), (76, 2), (77, 2), (78, 2)]), (9, 0, []), (9, 0, []), (9, 0, []), (9, 0, []), (9, 0, []), (9, 0, []), (9, 0, []), (9, 0, []), (9, 0, []), (9, 0, []), (9, 0, []), (9, 0, []), (9, 0, []), (9, 0, []), (9, 0, []), (9, 0, []), (9, 0, []), (9, 0, []), (9, 0, []), (9, 0, []), (9, 0, []), (9, 0, []), (9, 0, []), (9, 0, []), (9, 0, []), (9, 0, []), (9, 0, []), (9, 0, []), (9, 0, []), (9, 0, []), (9, 0, []), (9, 0, []), (9, 0, []), (9, 0, []), (9, 0, []), (9, 0, []), (9, 0, []), (9, 0, []), (9, 0, []), (9, 0, []), (9, 0, []), (0, 30, []), (0, 30, []), (0, 30, []), (9, 0, []), (0, 30, []), (0, 30, []), (0, 30, []), (9, 0, []), (0, 12, []), (0, 12, []), (0, 12, []), (0, 12, []), (0, 12, []), (0, 12, []), (9, 0, []), (0, 40, []), (0, 40, []), (1, 40, []), (0, 40, []), (9, 0, []), (0, 6, []), (9, 0, []), (0, 8, []), (0, 8, []), (0, 20, []), (0, 20, []), (0, 20, []), (1, 20, []), (9, 0, []), (0, 40, []), (0, 40, []), (1, 40, []), (9, 0, []), (1, 16, []), (9, 0, []), (0, 72, []), (0, 72, []), (0, 12, []), (0, 16, []), (0, 16, []), (0, 16, []), (0, 16, []), (9, 0, []), (0, 20, []), (0, 20, []), (0, 20, []), (9, 0, []), (0, 60, []), (9, 0, []), (0, 160, []), (9, 0, []), (0, 960, []), (0, 6, []), (9, 0, []), (9, 0, []), (1, 64, []), (9, 0, []), (0, 3, []), (0, 3, []), (9, 0, []), (9, 0, []), (9, 0, []), (9, 0, []), (9, 0, []), (9, 0, []), (9, 0, []), (0, 6, []), (9, 0, []), (9, 0, []), (0, 16, []), (0, 16, []), (0, 5, []), (0, 5, []), (0, 4, []), (0, 4, []), (0, 160, []), (0, 40, [])]
def fm_sh (k : Nat) : Nat × Nat × List (Nat × Nat) := fm_shs.getD k (9, 0, [])
def fm_tys : List FieldType := [.int, .int, .int, .int, .object RX0, .int, .int, .int, .int, .int, .int, .int, .long, .int, .int, .long, .int, .long, .long, .int, .int, .int, .int, .int, .int, .int, .int, .int, .int, .object RX9, .int, .int, .int, .int, .int, .int, .int, .int, .int, .int, .int, .int, .int, .array .int, .int, .object RX7, .int, .int, .int, .int, .int, .int, .int, .long, .int, .int, .long, .int, .int, .int, .int, .int, .int, .int, .int, .int, .int, .int, .int, .int, .int, .int, .int, .int, .int, .int, .int, .int, .int, .int, .int, .int, .int, .int, .int, .int, .int, .int, .int, .int, .int, .int, .int, .int, .int, .int, .int, .int, .int, .int, .int, .int, .int, .int, .int, .int, .int, .int, .int, .int, .int, .int, .int, .int, .int, .int, .int, .int, .int, .long, .int, .int, .int, .int, .int, .int, .int, .int, .int, .long, .int, .int, .int, .long, .int, .long, .int, .int, .int, .int, .int, .int, .int, .int, .int, .int, .int, .int, .int, .int, .int, .int, .int, .int, .int, .int, .int, .long, .int, .int, .int, .int, .int, .int, .int, .int, .int, .int, .int, .int, .int, .int, .int, .int, .int, .int, .int, .int, .int]
def fm_ty (k : Nat) : FieldType := fm_tys.getD k .int
def fm_cts : List Nat := [1, 1, 1, 1, 1, 1, 1, 1, 1, 1, 1, 1, 1, 1, 1, 1, 1, 1, 1, 1, 1, 1, 1, 1, 1, 1, 1, 1, 1, 1, 1, 1, 1, 1, 1, 1, 1, 1, 1, 1, 1, 1, 1, 1, 4, 1, 4, 4, 6, 6, 12, 12, 12, 12, 12, 12, 12, 0, 0, 0, 1, 0, 0, 0, 0, 0, 0, 0, 0, 0, 0, 0, 0, 0, 0, 0, 0, 0, 0, 0, 0, 0, 0, 0, 0, 0, 0, 0, 0, 0, 0, 0, 0, 0, 0, 0, 0, 0, 0, 0, 0, 0, 1, 1, 1, 0, 1, 1, 1, 0, 1, 1, 1, 1, 1, 1, 0, 1, 1, 1, 1, 0, 1, 0, 1, 1, 1, 1, 1, 1, 0, 1, 1, 1, 0, 1, 0, 1, 1, 1, 1, 1, 1, 1, 0, 1, 1, 1, 0, 1, 0, 1, 0, 1, 1, 0, 0, 1, 0, 1, 1, 0, 0, 0, 0, 0, 0, 0, 1, 0, 0, 1, 1, 1, 1, 1, 1, 1, 1]
/-- how many of a kind there are -/
def fm_ct (nb k : Nat) : Nat := if 50 ≤ k ∧ k ≤ 56 then nb else fm_cts.getD k 0
def fm_at (D : va_G) (ad : Nat → Nat → Nat) (C : Nat → Nat → ClassId) (nb : Nat) (M : fm_M) (H : Heap) : Prop := ∀ a k : Nat, k < fm_ct nb a → va_at D vwCl (ad a k, fm_e (C a k) (M.1 a k) (M.2.1 a k) (M.2.2 a k) (fm_sh a)) H
def fm_inj (ad : Nat → Nat → Nat) (nb : Nat) : Prop := ∀ a k b j : Nat, k < fm_ct nb a → j < fm_ct nb b → ad a k = ad b j → a = b ∧ k = j
def fm_K (D : va_G) (C : Nat → Nat → ClassId) (nb : Nat) (U : State) : Prop := va_K D vwCl [] U ∧ ∀ a k : Nat, k < fm_ct nb a → (fm_sh a).1 < 3 → ArrOfT U (C a k) (fm_ty a) ∧ va_RA U (C a k) (fm_ty a)
def fm_A (nb : Nat) (ad : Nat → Nat → Nat) : Nat → Prop := fun q => ∃ a k : Nat, k < fm_ct nb a ∧ q = ad a k
def fm_Cx (D : va_G) (ad : Nat → Nat → Nat) (C : Nat → Nat → ClassId) (nb : Nat) (A : Nat → Prop) (s : State) : Prop := fm_inj ad nb ∧ fm_K D C nb s ∧ rt_E s ∧ rt_T A s s.heap ∧ rt_SS A s s.heap ∧ ∀ q, fm_A nb ad q → A q
def fm_P (D : va_G) (ad : Nat → Nat → Nat) (C : Nat → Nat → ClassId) (nb : Nat) (M : fm_M) (U : State) : Prop := fm_at D ad C nb M U.heap ∧ fm_Cx D ad C nb (fm_A nb ad) U
def fm_wI (M : fm_M) (q k j : Nat) (x : Int32) : fm_M := (fun a b i => if a = q ∧ b = k ∧ i = j then x else M.1 a b i, M.2.1, M.2.2)
def fm_wL (M : fm_M) (q k j : Nat) (x : Int64) : fm_M := (M.1, fun a b i => if a = q ∧ b = k ∧ i = j then x else M.2.1 a b i, M.2.2)
def fm_wG (M : fm_M) (q k j : Nat) (x : Option Nat) : fm_M := (M.1, M.2.1, fun a b i => if a = q ∧ b = k ∧ i = j then x else M.2.2 a b i)
def fm_wA (M : fm_M) (q k : Nat) (f : Nat → Int32) : fm_M := (fun a b i => if a = q ∧ b = k then f i else M.1 a b i, M.2.1, M.2.2)
theorem fm_wI_ne {M : fm_M} {q k j a b : Nat} {x : Int32} (h : ¬ (a = q ∧ b = k)) : (fm_wI M q k j x).1 a b = M.1 a b := by
  funext i
  exact if_neg (fun z => h ⟨z.1, z.2.1⟩)
theorem fm_wI_at {M : fm_M} {q k j : Nat} {x : Int32} : (fm_wI M q k j x).1 q k j = x := if_pos ⟨rfl, rfl, rfl⟩
theorem fm_wI_nj {M : fm_M} {q k j a b i : Nat} {x : Int32} (h : ¬ (a = q ∧ b = k ∧ i = j)) : (fm_wI M q k j x).1 a b i = M.1 a b i := if_neg h
theorem fm_wL_ne {M : fm_M} {q k j a b : Nat} {x : Int64} (h : ¬ (a = q ∧ b = k)) : (fm_wL M q k j x).2.1 a b = M.2.1 a b := by
  funext i
  exact if_neg (fun z => h ⟨z.1, z.2.1⟩)
theorem fm_wL_at {M : fm_M} {q k j : Nat} {x : Int64} : (fm_wL M q k j x).2.1 q k j = x := if_pos ⟨rfl, rfl, rfl⟩
theorem fm_wL_nj {M : fm_M} {q k j a b i : Nat} {x : Int64} (h : ¬ (a = q ∧ b = k ∧ i = j)) : (fm_wL M q k j x).2.1 a b i = M.2.1 a b i := if_neg h
theorem fm_wG_ne {M : fm_M} {q k j a b : Nat} {x : Option Nat} (h : ¬ (a = q ∧ b = k)) : (fm_wG M q k j x).2.2 a b = M.2.2 a b := by
  funext i
  exact if_neg (fun z => h ⟨z.1, z.2.1⟩)
theorem fm_wG_at {M : fm_M} {q k j : Nat} {x : Option Nat} : (fm_wG M q k j x).2.2 q k j = x := if_pos ⟨rfl, rfl, rfl⟩
theorem fm_wG_nj {M : fm_M} {q k j a b i : Nat} {x : Option Nat} (h : ¬ (a = q ∧ b = k ∧ i = j)) : (fm_wG M q k j x).2.2 a b i = M.2.2 a b i := if_neg h
theorem fm_wA_ne {M : fm_M} {q k a b : Nat} {f : Nat → Int32} (h : ¬ (a = q ∧ b = k)) : (fm_wA M q k f).1 a b = M.1 a b := by
  funext i
  exact if_neg h
theorem fm_wA_at {M : fm_M} {q k : Nat} {f : Nat → Int32} : (fm_wA M q k f).1 q k = f := by
  funext i
  exact if_pos ⟨rfl, rfl⟩
def fm_cd (k j : Nat) : Nat := if (fm_sh k).1 < 3 then 1000 * k else 1000 * k + j
def fm_same (es : List Nat) (M N : fm_M) : Prop := ∀ a k j : Nat, fm_cd a j ∉ es → N.1 a k j = M.1 a k j ∧ N.2.1 a k j = M.2.1 a k j ∧ N.2.2 a k j = M.2.2 a k j
theorem fm_same.rf {es : List Nat} {M : fm_M} : fm_same es M M := fun _ _ _ _ => ⟨rfl, rfl, rfl⟩
theorem fm_same.tr {es fs : List Nat} {M N O : fm_M} (h : fm_same es M N) (g : fm_same fs N O) (hs : ∀ x ∈ fs, x ∈ es) : fm_same es M O := fun a k j hn => by
  obtain ⟨h1, h2, h3⟩ := h a k j hn
  obtain ⟨g1, g2, g3⟩ := g a k j (fun z => hn (hs _ z))
  exact ⟨g1.trans h1, g2.trans h2, g3.trans h3⟩
theorem fm_same.wI {es : List Nat} {M N : fm_M} {q k j : Nat} {x : Int32} (h : fm_same es M N) (hc : fm_cd q j ∈ es) : fm_same es M (fm_wI N q k j x) := fun a b i hn => by
  obtain ⟨h1, h2, h3⟩ := h a b i hn
  exact ⟨(fm_wI_nj (fun z => hn (by rw [z.1, z.2.2]; exact hc))).trans h1, h2, h3⟩
theorem fm_same.wL {es : List Nat} {M N : fm_M} {q k j : Nat} {x : Int64} (h : fm_same es M N) (hc : fm_cd q j ∈ es) : fm_same es M (fm_wL N q k j x) := fun a b i hn => by
  obtain ⟨h1, h2, h3⟩ := h a b i hn
  exact ⟨h1, (fm_wL_nj (fun z => hn (by rw [z.1, z.2.2]; exact hc))).trans h2, h3⟩
theorem fm_same.wG {es : List Nat} {M N : fm_M} {q k j : Nat} {x : Option Nat} (h : fm_same es M N) (hc : fm_cd q j ∈ es) : fm_same es M (fm_wG N q k j x) := fun a b i hn => by
  obtain ⟨h1, h2, h3⟩ := h a b i hn
  exact ⟨h1, h2, (fm_wG_nj (fun z => hn (by rw [z.1, z.2.2]; exact hc))).trans h3⟩
theorem fm_same.wA {es : List Nat} {M N : fm_M} {q k : Nat} {f : Nat → Int32} (h : fm_same es M N) (hc : ∀ j, fm_cd q j ∈ es) : fm_same es M (fm_wA N q k f) := fun a b i hn => by
  obtain ⟨h1, h2, h3⟩ := h a b i hn
  exact ⟨(show (if a = q ∧ b = k then f i else N.1 a b i) = M.1 a b i by rw [if_neg (fun z => hn (by rw [z.1]; exact hc i))]; exact h1), h2, h3⟩
def fm_bs : List (List (Int × Int)) := [[((-2147483648), 2147483647), ((-2147483648), 2147483647), ((-2147483648), 2147483647), ((-2147483648), 2147483647), ((-2147483648), 2147483647), ((-2147483648), 2147483647), ((-2147483648), 2147483647), ((-2147483648), 2147483647), ((-2147483648), 2147483647), (0, 239), (0, 12), (0, 40), (0, 9)], [((-2147483648), 2147483647), ((-2147483648), 2147483647), (0, 30), (0, 30)], [(0, 4444)], [(0, 16)], [], [((-2147483648), 2147483647), (0, 6), ((-2147483648), 2147483647), ((-2147483648), 2147483647), ((-2147483648), 2147483647), ((-2147483648), 2147483647), ((-2147483648), 2147483647), ((-2147483648), 2147483647), (0, 20), ((-2147483648), 2147483647), ((-2147483648), 2147483647), ((-2147483648), 2147483647), (0, 40)], [(0, 63)], [(0, 9)], [(0, 9)], [(0, 11)], [(0, 3)], [(0, 239)], [], [(0, 19)], [(0, 65535)], [], [((-2147483648), 2147483647), (0, 16), ((-2147483648), 2147483647), ((-2147483648), 2147483647), ((-2147483648), 2147483647), ((-2147483648), 2147483647), ((-2147483648), 2147483647)], [], [], [(0, 15)], [(0, 15)], [((-2147483648), 2147483647), ((-2147483648), 2147483647), ((-2147483648), 2147483647), ((-2147483648), 2147483647), ((-2147483648), 2147483647), (0, 16)], [(0, 11)], [(0, 99)], [(0, 99)], [(0, 99)], [((-2147483648), 2147483647)], [((-2147483648), 2147483647), (0, 160), ((-2147483648), 2147483647), (0, 6), (0, 5), ((-2147483648), 2147483647), ((-2147483648), 2147483647), ((-2147483648), 2147483647)], [((-2147483648), 2147483647)], [], [((-2147483648), 2147483647)], [((-2147483648), 2147483647)], [((-2147483648), 2147483647), (0, 160), ((-2147483648), 2147483647), ((-2147483648), 2147483647), ((-2147483648), 2147483647), ((-2147483648), 2147483647), (0, 160), ((-1), 160)], [((-2147483648), 2147483647)], [(0, 160)], [((-2147483648), 2147483647)], [((-2147483648), 2147483647), (0, 160), (0, 160)], [((-2147483648), 2147483647)], [((-2147483648), 2147483647), ((-2147483648), 2147483647), ((-2147483648), 2147483647), (0, 20)], [(0, 11)], [(0, 63)], [(0, 239)], [((-2147483648), 2147483647), (0, 4), ((-2147483648), 2147483647), (0, 242)], [], [((-2147483648), 2147483647)], [], [((-2147483648), 2147483647), ((-1), 2), (0, 40)], [((-2147483648), 2147483647)], [((-2147483648), 2147483647), (0, 160), (0, 160)], [((-2147483648), 2147483647)], [(0, 5), (0, 63), (0, 239), (0, 20), (0, 999), (0, 9999), ((-2147483648), 2147483647), ((-2147483648), 2147483647), ((-2147483648), 2147483647), (0, 40), ((-2147483648), 2147483647), ((-2147483648), 2147483647), (0, 6), ((-2147483648), 2147483647), ((-1), 239)], [(0, 239)], [(0, 239)], [], [(0, 15)], [(0, 239)], [], [], [], [], [(0, 239), (0, 9), ((-2147483648), 2147483647), ((-2147483648), 2147483647), ((-2147483648), 2147483647), (0, 30), ((-2147483648), 2147483647), ((-2147483648), 2147483647), ((-2147483648), 2147483647), (0, 30), ((-2147483648), 2147483647), ((-2147483648), 2147483647), ((-2147483648), 2147483647), ((-2147483648), 2147483647), ((-2147483648), 2147483647), ((-2147483648), 2147483647), (0, 12), ((-2147483648), 2147483647), ((-2147483648), 2147483647), ((-2147483648), 2147483647), ((-2147483648), 2147483647), (0, 40), ((-2147483648), 2147483647), (0, 6), ((-2147483648), 2147483647), ((-2147483648), 2147483647), ((-2147483648), 2147483647), ((-2147483648), 2147483647), ((-2147483648), 2147483647), ((-2147483648), 2147483647), (0, 20), ((-2147483648), 2147483647), ((-2147483648), 2147483647), ((-2147483648), 2147483647), (0, 40), ((-2147483648), 2147483647), (0, 16), ((-2147483648), 2147483647), ((-2147483648), 2147483647), ((-2147483648), 2147483647), ((-2147483648), 2147483647), ((-2147483648), 2147483647), ((-2147483648), 2147483647), ((-2147483648), 2147483647), (0, 16), ((-2147483648), 2147483647), ((-2147483648), 2147483647), ((-2147483648), 2147483647), (0, 20), ((-2147483648), 2147483647), (0, 4), ((-2147483648), 2147483647), (0, 160), ((-2147483648), 2147483647), ((-2147483648), 2147483647), (0, 6), (0, 5), ((-2147483648), 2147483647), ((-2147483648), 2147483647), ((-2147483648), 2147483647), ((-2147483648), 2147483647), ((-2147483648), 2147483647), ((-1), 800), (0, 160), (0, 160), (0, 160), (0, 5), ((-1), 160), ((-2147483648), 2147483647), ((-2147483648), 2147483647), ((-2147483648), 2147483647), ((-2147483648), 2147483647), ((-2147483648), 2147483647), ((-2147483648), 2147483647), ((-2147483648), 2147483647), ((-2147483648), 2147483647), ((-2147483648), 2147483647), ((-2147483648), 2147483647), ((-2147483648), 2147483647)], [], [], [], [], [], [], [], [], [], [], [], [], [], [], [], [], [], [], [], [], [], [], [], [], [], [], [], [], [], [], [], [], [], [], [], [], [], [], [], [], [], [(0, 240)], [(0, 240)], [(0, 4444)], [], [(0, 240)], [(0, 240)], [(0, 16)], [], [(0, 5)], [(0, 239)], [(0, 63)], [(0, 20)], [(0, 9999)], [(0, 999)], [], [(0, 11)], [(0, 239)], [], [(0, 239)], [], [(0, 63)], [], [(0, 9)], [(0, 9)], [(0, 11)], [(0, 3)], [(0, 239)], [], [], [(0, 19)], [(0, 65535)], [], [], [], [], [(0, 15)], [(0, 16)], [(0, 6)], [(0, 11)], [(0, 99)], [(0, 99)], [(0, 99)], [], [(0, 11)], [(0, 63)], [(0, 239)], [], [((-2147483648), 2147483647)], [], [((-2147483648), 2147483647)], [], [((-2147483648), 2147483647)], [(0, 160)], [], [], [], [], [(0, 15)], [(0, 15)], [], [], [], [], [], [], [], [((-2147483648), 2147483647)], [], [], [((-2147483648), 2147483647)], [(0, 15)], [(0, 2)], [(0, 2)], [((-1), 2)], [(0, 40)], [((-2147483648), 2147483647)], [((-2147483648), 2147483647)]]
def fm_b (k j : Nat) : Int × Int := (fm_bs.getD k []).getD (if (fm_sh k).1 < 3 then 0 else j) (-2147483648, 2147483647)
/-- where a reference of an object leads: 0 for none that is told -/
def fm_tgs : List (List Nat) := [[1, 4, 5, 16, 21, 27, 38, 42, 45, 0, 0, 0, 0], [2, 3, 0, 0], [], [], [], [6, 0, 7, 8, 9, 10, 11, 12, 0, 13, 14, 15, 0], [], [], [], [], [], [], [], [], [], [], [17, 0, 18, 0, 19, 20, 0], [], [], [], [], [22, 23, 24, 25, 26, 0], [], [], [], [], [], [28, 0, 29, 0, 0, 32, 30, 31], [], [], [], [], [0, 0, 33, 34, 35, 36, 0, 0], [], [], [], [37, 0, 0], [], [39, 40, 41, 0], [], [], [], [43, 0, 0, 0], [], [], [], [47, 0, 0], [], [49, 0, 0], [], [0, 0, 0, 0, 0, 0, 51, 52, 53, 0, 54, 55, 0, 56, 0], [], [], [], [], [], [], [], [], [], [0, 0, 102, 103, 104, 0, 106, 107, 108, 0, 110, 111, 112, 113, 114, 115, 0, 117, 118, 119, 120, 0, 122, 0, 124, 125, 126, 127, 128, 129, 0, 131, 132, 133, 0, 135, 0, 137, 138, 139, 140, 141, 142, 143, 0, 145, 146, 147, 0, 149, 0, 151, 0, 153, 154, 0, 0, 157, 0, 159, 160, 0, 0, 0, 0, 0, 0, 0, 168, 0, 0, 171, 172, 173, 174, 175, 176, 177, 178], [], [], [], [], [], [], [], [], [], [], [], [], [], [], [], [], [], [], [], [], [], [], [], [], [], [], [], [], [], [], [], [], [], [], [], [], [], [], [], [], [], [], [], [], [], [], [], [], [], [], [], [], [], [], [], [], [], [], [], [], [], [], [], [], [], [], [], [], [], [], [], [], [], [], [], [], [], [], [], [], [], [], [], [], [], [], [], [], [], [], [], [], [], [], [], [], [], [], [], [], [], [], [], [], [], [], [], [], [], [], [], [], [], [], [], [], [], []]
def fm_tg (k j : Nat) : Nat := (fm_tgs.getD k []).getD j 0
def fm_I (nb : Nat) (ad : Nat → Nat → Nat) (M : fm_M) : Prop := (∀ a k j : Nat, (fm_b a j).1 ≤ (M.1 a k j).toInt ∧ (M.1 a k j).toInt ≤ (fm_b a j).2) ∧ (∀ a k j : Nat, fm_tg a j ≠ 0 → k < fm_ct nb a → M.2.2 a k j = some (ad (fm_tg a j) k)) ∧ (∀ j : Nat, M.2.2 4 0 j = if j < nb then some (ad 50 j) else none) ∧ (∀ j : Nat, j < 6 → M.2.2 29 0 j = some (ad 48 j)) ∧ (∀ j : Nat, j < 4 → M.2.2 43 0 j = some (ad 44 j)) ∧ (∀ j : Nat, j < 4 → M.2.2 45 0 j = some (ad 46 j)) ∧ (M.1 0 0 10).toInt = nb ∧ nb ≤ 12
theorem fm_I.wI {nb : Nat} {ad : Nat → Nat → Nat} {M : fm_M} {q k j : Nat} {x : Int32} (h : fm_I nb ad M) (hne : ¬ (0 = q ∧ 10 = j)) (hx : (fm_b q j).1 ≤ x.toInt ∧ x.toInt ≤ (fm_b q j).2) : fm_I nb ad (fm_wI M q k j x) := by
  obtain ⟨h1, h2, h3, h4, h5, h6, h7, h8⟩ := h
  refine ⟨fun a b i => ?_, h2, h3, h4, h5, h6, ?_, h8⟩
  · by_cases z : a = q ∧ b = k ∧ i = j
    · obtain ⟨rfl, rfl, rfl⟩ := z
      rw [fm_wI_at]; exact hx
    · rw [fm_wI_nj z]; exact h1 a b i
  · rw [fm_wI_nj (fun z => hne ⟨z.1, z.2.2⟩)]; exact h7
theorem fm_I.wL {nb : Nat} {ad : Nat → Nat → Nat} {M : fm_M} {q k j : Nat} {x : Int64} (h : fm_I nb ad M) : fm_I nb ad (fm_wL M q k j x) := h
theorem fm_I.wA {nb : Nat} {ad : Nat → Nat → Nat} {M : fm_M} {q k : Nat} {f : Nat → Int32} (h : fm_I nb ad M) (hne : ¬ 0 = q) (hx : ∀ j, (fm_b q j).1 ≤ (f j).toInt ∧ (f j).toInt ≤ (fm_b q j).2) : fm_I nb ad (fm_wA M q k f) := by
  obtain ⟨h1, h2, h3, h4, h5, h6, h7, h8⟩ := h
  refine ⟨fun a b i => ?_, h2, h3, h4, h5, h6, ?_, h8⟩
  · by_cases z : a = q ∧ b = k
    · obtain ⟨rfl, rfl⟩ := z
      rw [fm_wA_at]; exact hx i
    · rw [fm_wA_ne z]; exact h1 a b i
  · rw [fm_wA_ne (fun z => hne z.1)]; exact h7
theorem kl_0 {nb : Nat} : 0 < fm_ct nb 0 := (by decide : 0 < 1)
theorem sh_0 : fm_sh 0 = (3, 11, [(0, 2), (1, 2), (2, 2), (3, 2), (4, 2), (5, 2), (6, 2), (7, 2), (8, 2), (9, 0), (10, 0), (11, 0), (12, 0)]) := rfl
theorem od_0 : ∀ i, i < ([(0, 2), (1, 2), (2, 2), (3, 2), (4, 2), (5, 2), (6, 2), (7, 2), (8, 2), (9, 0), (10, 0), (11, 0), (12, 0)] : List (Nat × Nat)).length → (([(0, 2), (1, 2), (2, 2), (3, 2), (4, 2), (5, 2), (6, 2), (7, 2), (8, 2), (9, 0), (10, 0), (11, 0), (12, 0)] : List (Nat × Nat)).getD i (0, 0)).1 = i := by decide
theorem tg_0_0 : fm_tg 0 0 = 0 + 1 := rfl
theorem cd_0_0 : fm_cd 0 0 = 0 := rfl
theorem tg_0_1 : fm_tg 0 1 = 3 + 1 := rfl
theorem cd_0_1 : fm_cd 0 1 = 1 := rfl
theorem tg_0_2 : fm_tg 0 2 = 4 + 1 := rfl
theorem cd_0_2 : fm_cd 0 2 = 2 := rfl
theorem tg_0_3 : fm_tg 0 3 = 15 + 1 := rfl
theorem cd_0_3 : fm_cd 0 3 = 3 := rfl
theorem tg_0_4 : fm_tg 0 4 = 20 + 1 := rfl
theorem cd_0_4 : fm_cd 0 4 = 4 := rfl
theorem tg_0_5 : fm_tg 0 5 = 26 + 1 := rfl
theorem cd_0_5 : fm_cd 0 5 = 5 := rfl
theorem tg_0_6 : fm_tg 0 6 = 37 + 1 := rfl
theorem cd_0_6 : fm_cd 0 6 = 6 := rfl
theorem tg_0_7 : fm_tg 0 7 = 41 + 1 := rfl
theorem cd_0_7 : fm_cd 0 7 = 7 := rfl
theorem tg_0_8 : fm_tg 0 8 = 44 + 1 := rfl
theorem cd_0_8 : fm_cd 0 8 = 8 := rfl
theorem bd_0_9 : fm_b 0 9 = (0, 239) := rfl
theorem cd_0_9 : fm_cd 0 9 = 9 := rfl
theorem bd_0_10 : fm_b 0 10 = (0, 12) := rfl
theorem cd_0_10 : fm_cd 0 10 = 10 := rfl
theorem bd_0_11 : fm_b 0 11 = (0, 40) := rfl
theorem cd_0_11 : fm_cd 0 11 = 11 := rfl
theorem bd_0_12 : fm_b 0 12 = (0, 9) := rfl
theorem cd_0_12 : fm_cd 0 12 = 12 := rfl
theorem kl_1 {nb : Nat} : 0 < fm_ct nb 1 := (by decide : 0 < 1)
theorem sh_1 : fm_sh 1 = (3, 10, [(0, 2), (1, 2), (2, 0), (3, 0)]) := rfl
theorem od_1 : ∀ i, i < ([(0, 2), (1, 2), (2, 0), (3, 0)] : List (Nat × Nat)).length → (([(0, 2), (1, 2), (2, 0), (3, 0)] : List (Nat × Nat)).getD i (0, 0)).1 = i := by decide
theorem tg_1_0 : fm_tg 1 0 = 1 + 1 := rfl
theorem cd_1_0 : fm_cd 1 0 = 1000 := rfl
theorem tg_1_1 : fm_tg 1 1 = 2 + 1 := rfl
theorem cd_1_1 : fm_cd 1 1 = 1001 := rfl
theorem bd_1_2 : fm_b 1 2 = (0, 30) := rfl
theorem cd_1_2 : fm_cd 1 2 = 1002 := rfl
theorem bd_1_3 : fm_b 1 3 = (0, 30) := rfl
theorem cd_1_3 : fm_cd 1 3 = 1003 := rfl
theorem kl_2 {nb : Nat} : 0 < fm_ct nb 2 := (by decide : 0 < 1)
theorem sh_2 : fm_sh 2 = (0, 240, []) := rfl
theorem ty_2 : fm_ty 2 = .int := rfl
theorem bd_2 (j : Nat) : fm_b 2 j = (0, 4444) := rfl
theorem cd_2 (j : Nat) : fm_cd 2 j = 2000 := rfl
theorem kl_3 {nb : Nat} : 0 < fm_ct nb 3 := (by decide : 0 < 1)
theorem sh_3 : fm_sh 3 = (0, 240, []) := rfl
theorem ty_3 : fm_ty 3 = .int := rfl
theorem bd_3 (j : Nat) : fm_b 3 j = (0, 16) := rfl
theorem cd_3 (j : Nat) : fm_cd 3 j = 3000 := rfl
theorem kl_4 {nb : Nat} : 0 < fm_ct nb 4 := (by decide : 0 < 1)
theorem sh_4 : fm_sh 4 = (2, 12, []) := rfl
theorem ty_4 : fm_ty 4 = .object RX0 := rfl
theorem cd_4 (j : Nat) : fm_cd 4 j = 4000 := rfl
theorem kl_5 {nb : Nat} : 0 < fm_ct nb 5 := (by decide : 0 < 1)
theorem sh_5 : fm_sh 5 = (3, 4, [(0, 2), (1, 0), (2, 2), (3, 2), (4, 2), (5, 2), (6, 2), (7, 2), (8, 0), (9, 2), (10, 2), (11, 2), (12, 0)]) := rfl
theorem od_5 : ∀ i, i < ([(0, 2), (1, 0), (2, 2), (3, 2), (4, 2), (5, 2), (6, 2), (7, 2), (8, 0), (9, 2), (10, 2), (11, 2), (12, 0)] : List (Nat × Nat)).length → (([(0, 2), (1, 0), (2, 2), (3, 2), (4, 2), (5, 2), (6, 2), (7, 2), (8, 0), (9, 2), (10, 2), (11, 2), (12, 0)] : List (Nat × Nat)).getD i (0, 0)).1 = i := by decide
theorem tg_5_0 : fm_tg 5 0 = 5 + 1 := rfl
theorem cd_5_0 : fm_cd 5 0 = 5000 := rfl
theorem bd_5_1 : fm_b 5 1 = (0, 6) := rfl
theorem cd_5_1 : fm_cd 5 1 = 5001 := rfl
theorem tg_5_2 : fm_tg 5 2 = 6 + 1 := rfl
theorem cd_5_2 : fm_cd 5 2 = 5002 := rfl
theorem tg_5_3 : fm_tg 5 3 = 7 + 1 := rfl
theorem cd_5_3 : fm_cd 5 3 = 5003 := rfl
theorem tg_5_4 : fm_tg 5 4 = 8 + 1 := rfl
theorem cd_5_4 : fm_cd 5 4 = 5004 := rfl
theorem tg_5_5 : fm_tg 5 5 = 9 + 1 := rfl
theorem cd_5_5 : fm_cd 5 5 = 5005 := rfl
theorem tg_5_6 : fm_tg 5 6 = 10 + 1 := rfl
theorem cd_5_6 : fm_cd 5 6 = 5006 := rfl
theorem tg_5_7 : fm_tg 5 7 = 11 + 1 := rfl
theorem cd_5_7 : fm_cd 5 7 = 5007 := rfl
theorem bd_5_8 : fm_b 5 8 = (0, 20) := rfl
theorem cd_5_8 : fm_cd 5 8 = 5008 := rfl
theorem tg_5_9 : fm_tg 5 9 = 12 + 1 := rfl
theorem cd_5_9 : fm_cd 5 9 = 5009 := rfl
theorem tg_5_10 : fm_tg 5 10 = 13 + 1 := rfl
theorem cd_5_10 : fm_cd 5 10 = 5010 := rfl
theorem tg_5_11 : fm_tg 5 11 = 14 + 1 := rfl
theorem cd_5_11 : fm_cd 5 11 = 5011 := rfl
theorem bd_5_12 : fm_b 5 12 = (0, 40) := rfl
theorem cd_5_12 : fm_cd 5 12 = 5012 := rfl
theorem kl_6 {nb : Nat} : 0 < fm_ct nb 6 := (by decide : 0 < 1)
theorem sh_6 : fm_sh 6 = (0, 6, []) := rfl
theorem ty_6 : fm_ty 6 = .int := rfl
theorem bd_6 (j : Nat) : fm_b 6 j = (0, 63) := rfl
theorem cd_6 (j : Nat) : fm_cd 6 j = 6000 := rfl
theorem kl_7 {nb : Nat} : 0 < fm_ct nb 7 := (by decide : 0 < 1)
theorem sh_7 : fm_sh 7 = (0, 8, []) := rfl
theorem ty_7 : fm_ty 7 = .int := rfl
theorem bd_7 (j : Nat) : fm_b 7 j = (0, 9) := rfl
theorem cd_7 (j : Nat) : fm_cd 7 j = 7000 := rfl
theorem kl_8 {nb : Nat} : 0 < fm_ct nb 8 := (by decide : 0 < 1)
theorem sh_8 : fm_sh 8 = (0, 8, []) := rfl
theorem ty_8 : fm_ty 8 = .int := rfl
theorem bd_8 (j : Nat) : fm_b 8 j = (0, 9) := rfl
theorem cd_8 (j : Nat) : fm_cd 8 j = 8000 := rfl
theorem kl_9 {nb : Nat} : 0 < fm_ct nb 9 := (by decide : 0 < 1)
theorem sh_9 : fm_sh 9 = (0, 20, []) := rfl
theorem ty_9 : fm_ty 9 = .int := rfl
theorem bd_9 (j : Nat) : fm_b 9 j = (0, 11) := rfl
theorem cd_9 (j : Nat) : fm_cd 9 j = 9000 := rfl
theorem kl_10 {nb : Nat} : 0 < fm_ct nb 10 := (by decide : 0 < 1)
theorem sh_10 : fm_sh 10 = (0, 20, []) := rfl
theorem ty_10 : fm_ty 10 = .int := rfl
theorem bd_10 (j : Nat) : fm_b 10 j = (0, 3) := rfl
theorem cd_10 (j : Nat) : fm_cd 10 j = 10000 := rfl
theorem kl_11 {nb : Nat} : 0 < fm_ct nb 11 := (by decide : 0 < 1)
theorem sh_11 : fm_sh 11 = (0, 20, []) := rfl
theorem ty_11 : fm_ty 11 = .int := rfl
theorem bd_11 (j : Nat) : fm_b 11 j = (0, 239) := rfl
theorem cd_11 (j : Nat) : fm_cd 11 j = 11000 := rfl
theorem kl_12 {nb : Nat} : 0 < fm_ct nb 12 := (by decide : 0 < 1)
theorem sh_12 : fm_sh 12 = (1, 20, []) := rfl
theorem ty_12 : fm_ty 12 = .long := rfl
theorem cd_12 (j : Nat) : fm_cd 12 j = 12000 := rfl
theorem kl_13 {nb : Nat} : 0 < fm_ct nb 13 := (by decide : 0 < 1)
theorem sh_13 : fm_sh 13 = (0, 40, []) := rfl
theorem ty_13 : fm_ty 13 = .int := rfl
theorem bd_13 (j : Nat) : fm_b 13 j = (0, 19) := rfl
theorem cd_13 (j : Nat) : fm_cd 13 j = 13000 := rfl
theorem kl_14 {nb : Nat} : 0 < fm_ct nb 14 := (by decide : 0 < 1)
theorem sh_14 : fm_sh 14 = (0, 40, []) := rfl
theorem ty_14 : fm_ty 14 = .int := rfl
theorem bd_14 (j : Nat) : fm_b 14 j = (0, 65535) := rfl
theorem cd_14 (j : Nat) : fm_cd 14 j = 14000 := rfl
theorem kl_15 {nb : Nat} : 0 < fm_ct nb 15 := (by decide : 0 < 1)
theorem sh_15 : fm_sh 15 = (1, 40, []) := rfl
theorem ty_15 : fm_ty 15 = .long := rfl
theorem cd_15 (j : Nat) : fm_cd 15 j = 15000 := rfl
theorem kl_16 {nb : Nat} : 0 < fm_ct nb 16 := (by decide : 0 < 1)
theorem sh_16 : fm_sh 16 = (3, 6, [(0, 2), (1, 0), (2, 2), (3, 1), (4, 2), (5, 2), (6, 1)]) := rfl
theorem od_16 : ∀ i, i < ([(0, 2), (1, 0), (2, 2), (3, 1), (4, 2), (5, 2), (6, 1)] : List (Nat × Nat)).length → (([(0, 2), (1, 0), (2, 2), (3, 1), (4, 2), (5, 2), (6, 1)] : List (Nat × Nat)).getD i (0, 0)).1 = i := by decide
theorem tg_16_0 : fm_tg 16 0 = 16 + 1 := rfl
theorem cd_16_0 : fm_cd 16 0 = 16000 := rfl
theorem bd_16_1 : fm_b 16 1 = (0, 16) := rfl
theorem cd_16_1 : fm_cd 16 1 = 16001 := rfl
theorem tg_16_2 : fm_tg 16 2 = 17 + 1 := rfl
theorem cd_16_2 : fm_cd 16 2 = 16002 := rfl
theorem cd_16_3 : fm_cd 16 3 = 16003 := rfl
theorem tg_16_4 : fm_tg 16 4 = 18 + 1 := rfl
theorem cd_16_4 : fm_cd 16 4 = 16004 := rfl
theorem tg_16_5 : fm_tg 16 5 = 19 + 1 := rfl
theorem cd_16_5 : fm_cd 16 5 = 16005 := rfl
theorem cd_16_6 : fm_cd 16 6 = 16006 := rfl
theorem kl_17 {nb : Nat} : 0 < fm_ct nb 17 := (by decide : 0 < 1)
theorem sh_17 : fm_sh 17 = (1, 16, []) := rfl
theorem ty_17 : fm_ty 17 = .long := rfl
theorem cd_17 (j : Nat) : fm_cd 17 j = 17000 := rfl
theorem kl_18 {nb : Nat} : 0 < fm_ct nb 18 := (by decide : 0 < 1)
theorem sh_18 : fm_sh 18 = (1, 64, []) := rfl
theorem ty_18 : fm_ty 18 = .long := rfl
theorem cd_18 (j : Nat) : fm_cd 18 j = 18000 := rfl
theorem kl_19 {nb : Nat} : 0 < fm_ct nb 19 := (by decide : 0 < 1)
theorem sh_19 : fm_sh 19 = (0, 3, []) := rfl
theorem ty_19 : fm_ty 19 = .int := rfl
theorem bd_19 (j : Nat) : fm_b 19 j = (0, 15) := rfl
theorem cd_19 (j : Nat) : fm_cd 19 j = 19000 := rfl
theorem kl_20 {nb : Nat} : 0 < fm_ct nb 20 := (by decide : 0 < 1)
theorem sh_20 : fm_sh 20 = (0, 3, []) := rfl
theorem ty_20 : fm_ty 20 = .int := rfl
theorem bd_20 (j : Nat) : fm_b 20 j = (0, 15) := rfl
theorem cd_20 (j : Nat) : fm_cd 20 j = 20000 := rfl
theorem kl_21 {nb : Nat} : 0 < fm_ct nb 21 := (by decide : 0 < 1)
theorem sh_21 : fm_sh 21 = (3, 2, [(0, 2), (1, 2), (2, 2), (3, 2), (4, 2), (5, 0)]) := rfl
theorem od_21 : ∀ i, i < ([(0, 2), (1, 2), (2, 2), (3, 2), (4, 2), (5, 0)] : List (Nat × Nat)).length → (([(0, 2), (1, 2), (2, 2), (3, 2), (4, 2), (5, 0)] : List (Nat × Nat)).getD i (0, 0)).1 = i := by decide
theorem tg_21_0 : fm_tg 21 0 = 21 + 1 := rfl
theorem cd_21_0 : fm_cd 21 0 = 21000 := rfl
theorem tg_21_1 : fm_tg 21 1 = 22 + 1 := rfl
theorem cd_21_1 : fm_cd 21 1 = 21001 := rfl
theorem tg_21_2 : fm_tg 21 2 = 23 + 1 := rfl
theorem cd_21_2 : fm_cd 21 2 = 21002 := rfl
theorem tg_21_3 : fm_tg 21 3 = 24 + 1 := rfl
theorem cd_21_3 : fm_cd 21 3 = 21003 := rfl
theorem tg_21_4 : fm_tg 21 4 = 25 + 1 := rfl
theorem cd_21_4 : fm_cd 21 4 = 21004 := rfl
theorem bd_21_5 : fm_b 21 5 = (0, 16) := rfl
theorem cd_21_5 : fm_cd 21 5 = 21005 := rfl
theorem kl_22 {nb : Nat} : 0 < fm_ct nb 22 := (by decide : 0 < 1)
theorem sh_22 : fm_sh 22 = (0, 16, []) := rfl
theorem ty_22 : fm_ty 22 = .int := rfl
theorem bd_22 (j : Nat) : fm_b 22 j = (0, 11) := rfl
theorem cd_22 (j : Nat) : fm_cd 22 j = 22000 := rfl
theorem kl_23 {nb : Nat} : 0 < fm_ct nb 23 := (by decide : 0 < 1)
theorem sh_23 : fm_sh 23 = (0, 16, []) := rfl
theorem ty_23 : fm_ty 23 = .int := rfl
theorem bd_23 (j : Nat) : fm_b 23 j = (0, 99) := rfl
theorem cd_23 (j : Nat) : fm_cd 23 j = 23000 := rfl
theorem kl_24 {nb : Nat} : 0 < fm_ct nb 24 := (by decide : 0 < 1)
theorem sh_24 : fm_sh 24 = (0, 16, []) := rfl
theorem ty_24 : fm_ty 24 = .int := rfl
theorem bd_24 (j : Nat) : fm_b 24 j = (0, 99) := rfl
theorem cd_24 (j : Nat) : fm_cd 24 j = 24000 := rfl
theorem kl_25 {nb : Nat} : 0 < fm_ct nb 25 := (by decide : 0 < 1)
theorem sh_25 : fm_sh 25 = (0, 16, []) := rfl
theorem ty_25 : fm_ty 25 = .int := rfl
theorem bd_25 (j : Nat) : fm_b 25 j = (0, 99) := rfl
theorem cd_25 (j : Nat) : fm_cd 25 j = 25000 := rfl
theorem kl_26 {nb : Nat} : 0 < fm_ct nb 26 := (by decide : 0 < 1)
theorem sh_26 : fm_sh 26 = (0, 16, []) := rfl
theorem ty_26 : fm_ty 26 = .int := rfl
theorem bd_26 (j : Nat) : fm_b 26 j = ((-2147483648), 2147483647) := rfl
theorem cd_26 (j : Nat) : fm_cd 26 j = 26000 := rfl
theorem kl_27 {nb : Nat} : 0 < fm_ct nb 27 := (by decide : 0 < 1)
theorem sh_27 : fm_sh 27 = (3, 3, [(0, 2), (1, 0), (2, 2), (3, 0), (4, 0), (5, 2), (6, 2), (7, 2)]) := rfl
theorem od_27 : ∀ i, i < ([(0, 2), (1, 0), (2, 2), (3, 0), (4, 0), (5, 2), (6, 2), (7, 2)] : List (Nat × Nat)).length → (([(0, 2), (1, 0), (2, 2), (3, 0), (4, 0), (5, 2), (6, 2), (7, 2)] : List (Nat × Nat)).getD i (0, 0)).1 = i := by decide
theorem tg_27_0 : fm_tg 27 0 = 27 + 1 := rfl
theorem cd_27_0 : fm_cd 27 0 = 27000 := rfl
theorem bd_27_1 : fm_b 27 1 = (0, 160) := rfl
theorem cd_27_1 : fm_cd 27 1 = 27001 := rfl
theorem tg_27_2 : fm_tg 27 2 = 28 + 1 := rfl
theorem cd_27_2 : fm_cd 27 2 = 27002 := rfl
theorem bd_27_3 : fm_b 27 3 = (0, 6) := rfl
theorem cd_27_3 : fm_cd 27 3 = 27003 := rfl
theorem bd_27_4 : fm_b 27 4 = (0, 5) := rfl
theorem cd_27_4 : fm_cd 27 4 = 27004 := rfl
theorem tg_27_5 : fm_tg 27 5 = 31 + 1 := rfl
theorem cd_27_5 : fm_cd 27 5 = 27005 := rfl
theorem tg_27_6 : fm_tg 27 6 = 29 + 1 := rfl
theorem cd_27_6 : fm_cd 27 6 = 27006 := rfl
theorem tg_27_7 : fm_tg 27 7 = 30 + 1 := rfl
theorem cd_27_7 : fm_cd 27 7 = 27007 := rfl
theorem kl_28 {nb : Nat} : 0 < fm_ct nb 28 := (by decide : 0 < 1)
theorem sh_28 : fm_sh 28 = (0, 160, []) := rfl
theorem ty_28 : fm_ty 28 = .int := rfl
theorem bd_28 (j : Nat) : fm_b 28 j = ((-2147483648), 2147483647) := rfl
theorem cd_28 (j : Nat) : fm_cd 28 j = 28000 := rfl
theorem kl_29 {nb : Nat} : 0 < fm_ct nb 29 := (by decide : 0 < 1)
theorem sh_29 : fm_sh 29 = (2, 6, []) := rfl
theorem ty_29 : fm_ty 29 = .object RX9 := rfl
theorem cd_29 (j : Nat) : fm_cd 29 j = 29000 := rfl
theorem kl_30 {nb : Nat} : 0 < fm_ct nb 30 := (by decide : 0 < 1)
theorem sh_30 : fm_sh 30 = (0, 6, []) := rfl
theorem ty_30 : fm_ty 30 = .int := rfl
theorem bd_30 (j : Nat) : fm_b 30 j = ((-2147483648), 2147483647) := rfl
theorem cd_30 (j : Nat) : fm_cd 30 j = 30000 := rfl
theorem kl_31 {nb : Nat} : 0 < fm_ct nb 31 := (by decide : 0 < 1)
theorem sh_31 : fm_sh 31 = (0, 64, []) := rfl
theorem ty_31 : fm_ty 31 = .int := rfl
theorem bd_31 (j : Nat) : fm_b 31 j = ((-2147483648), 2147483647) := rfl
theorem cd_31 (j : Nat) : fm_cd 31 j = 31000 := rfl
theorem kl_32 {nb : Nat} : 0 < fm_ct nb 32 := (by decide : 0 < 1)
theorem sh_32 : fm_sh 32 = (3, 5, [(0, 2), (1, 0), (2, 2), (3, 2), (4, 2), (5, 2), (6, 0), (7, 0)]) := rfl
theorem od_32 : ∀ i, i < ([(0, 2), (1, 0), (2, 2), (3, 2), (4, 2), (5, 2), (6, 0), (7, 0)] : List (Nat × Nat)).length → (([(0, 2), (1, 0), (2, 2), (3, 2), (4, 2), (5, 2), (6, 0), (7, 0)] : List (Nat × Nat)).getD i (0, 0)).1 = i := by decide
theorem cd_32_0 : fm_cd 32 0 = 32000 := rfl
theorem bd_32_1 : fm_b 32 1 = (0, 160) := rfl
theorem cd_32_1 : fm_cd 32 1 = 32001 := rfl
theorem tg_32_2 : fm_tg 32 2 = 32 + 1 := rfl
theorem cd_32_2 : fm_cd 32 2 = 32002 := rfl
theorem tg_32_3 : fm_tg 32 3 = 33 + 1 := rfl
theorem cd_32_3 : fm_cd 32 3 = 32003 := rfl
theorem tg_32_4 : fm_tg 32 4 = 34 + 1 := rfl
theorem cd_32_4 : fm_cd 32 4 = 32004 := rfl
theorem tg_32_5 : fm_tg 32 5 = 35 + 1 := rfl
theorem cd_32_5 : fm_cd 32 5 = 32005 := rfl
theorem bd_32_6 : fm_b 32 6 = (0, 160) := rfl
theorem cd_32_6 : fm_cd 32 6 = 32006 := rfl
theorem bd_32_7 : fm_b 32 7 = ((-1), 160) := rfl
theorem cd_32_7 : fm_cd 32 7 = 32007 := rfl
theorem kl_33 {nb : Nat} : 0 < fm_ct nb 33 := (by decide : 0 < 1)
theorem sh_33 : fm_sh 33 = (0, 161, []) := rfl
theorem ty_33 : fm_ty 33 = .int := rfl
theorem bd_33 (j : Nat) : fm_b 33 j = ((-2147483648), 2147483647) := rfl
theorem cd_33 (j : Nat) : fm_cd 33 j = 33000 := rfl
theorem kl_34 {nb : Nat} : 0 < fm_ct nb 34 := (by decide : 0 < 1)
theorem sh_34 : fm_sh 34 = (0, 161, []) := rfl
theorem ty_34 : fm_ty 34 = .int := rfl
theorem bd_34 (j : Nat) : fm_b 34 j = (0, 160) := rfl
theorem cd_34 (j : Nat) : fm_cd 34 j = 34000 := rfl
theorem kl_35 {nb : Nat} : 0 < fm_ct nb 35 := (by decide : 0 < 1)
theorem sh_35 : fm_sh 35 = (0, 161, []) := rfl
theorem ty_35 : fm_ty 35 = .int := rfl
theorem bd_35 (j : Nat) : fm_b 35 j = ((-2147483648), 2147483647) := rfl
theorem cd_35 (j : Nat) : fm_cd 35 j = 35000 := rfl
theorem kl_36 {nb : Nat} : 0 < fm_ct nb 36 := (by decide : 0 < 1)
theorem sh_36 : fm_sh 36 = (3, 9, [(0, 2), (1, 0), (2, 0)]) := rfl
theorem od_36 : ∀ i, i < ([(0, 2), (1, 0), (2, 0)] : List (Nat × Nat)).length → (([(0, 2), (1, 0), (2, 0)] : List (Nat × Nat)).getD i (0, 0)).1 = i := by decide
theorem tg_36_0 : fm_tg 36 0 = 36 + 1 := rfl
theorem cd_36_0 : fm_cd 36 0 = 36000 := rfl
theorem bd_36_1 : fm_b 36 1 = (0, 160) := rfl
theorem cd_36_1 : fm_cd 36 1 = 36001 := rfl
theorem bd_36_2 : fm_b 36 2 = (0, 160) := rfl
theorem cd_36_2 : fm_cd 36 2 = 36002 := rfl
theorem kl_37 {nb : Nat} : 0 < fm_ct nb 37 := (by decide : 0 < 1)
theorem sh_37 : fm_sh 37 = (0, 160, []) := rfl
theorem ty_37 : fm_ty 37 = .int := rfl
theorem bd_37 (j : Nat) : fm_b 37 j = ((-2147483648), 2147483647) := rfl
theorem cd_37 (j : Nat) : fm_cd 37 j = 37000 := rfl
theorem kl_38 {nb : Nat} : 0 < fm_ct nb 38 := (by decide : 0 < 1)
theorem sh_38 : fm_sh 38 = (3, 8, [(0, 2), (1, 2), (2, 2), (3, 0)]) := rfl
theorem od_38 : ∀ i, i < ([(0, 2), (1, 2), (2, 2), (3, 0)] : List (Nat × Nat)).length → (([(0, 2), (1, 2), (2, 2), (3, 0)] : List (Nat × Nat)).getD i (0, 0)).1 = i := by decide
theorem tg_38_0 : fm_tg 38 0 = 38 + 1 := rfl
theorem cd_38_0 : fm_cd 38 0 = 38000 := rfl
theorem tg_38_1 : fm_tg 38 1 = 39 + 1 := rfl
theorem cd_38_1 : fm_cd 38 1 = 38001 := rfl
theorem tg_38_2 : fm_tg 38 2 = 40 + 1 := rfl
theorem cd_38_2 : fm_cd 38 2 = 38002 := rfl
theorem bd_38_3 : fm_b 38 3 = (0, 20) := rfl
theorem cd_38_3 : fm_cd 38 3 = 38003 := rfl
theorem kl_39 {nb : Nat} : 0 < fm_ct nb 39 := (by decide : 0 < 1)
theorem sh_39 : fm_sh 39 = (0, 20, []) := rfl
theorem ty_39 : fm_ty 39 = .int := rfl
theorem bd_39 (j : Nat) : fm_b 39 j = (0, 11) := rfl
theorem cd_39 (j : Nat) : fm_cd 39 j = 39000 := rfl
theorem kl_40 {nb : Nat} : 0 < fm_ct nb 40 := (by decide : 0 < 1)
theorem sh_40 : fm_sh 40 = (0, 20, []) := rfl
theorem ty_40 : fm_ty 40 = .int := rfl
theorem bd_40 (j : Nat) : fm_b 40 j = (0, 63) := rfl
theorem cd_40 (j : Nat) : fm_cd 40 j = 40000 := rfl
theorem kl_41 {nb : Nat} : 0 < fm_ct nb 41 := (by decide : 0 < 1)
theorem sh_41 : fm_sh 41 = (0, 20, []) := rfl
theorem ty_41 : fm_ty 41 = .int := rfl
theorem bd_41 (j : Nat) : fm_b 41 j = (0, 239) := rfl
theorem cd_41 (j : Nat) : fm_cd 41 j = 41000 := rfl
theorem kl_42 {nb : Nat} : 0 < fm_ct nb 42 := (by decide : 0 < 1)
theorem sh_42 : fm_sh 42 = (3, 1, [(0, 2), (1, 0), (2, 0), (3, 0)]) := rfl
theorem od_42 : ∀ i, i < ([(0, 2), (1, 0), (2, 0), (3, 0)] : List (Nat × Nat)).length → (([(0, 2), (1, 0), (2, 0), (3, 0)] : List (Nat × Nat)).getD i (0, 0)).1 = i := by decide
theorem tg_42_0 : fm_tg 42 0 = 42 + 1 := rfl
theorem cd_42_0 : fm_cd 42 0 = 42000 := rfl
theorem bd_42_1 : fm_b 42 1 = (0, 4) := rfl
theorem cd_42_1 : fm_cd 42 1 = 42001 := rfl
theorem bd_42_2 : fm_b 42 2 = ((-2147483648), 2147483647) := rfl
theorem cd_42_2 : fm_cd 42 2 = 42002 := rfl
theorem bd_42_3 : fm_b 42 3 = (0, 242) := rfl
theorem cd_42_3 : fm_cd 42 3 = 42003 := rfl
theorem kl_43 {nb : Nat} : 0 < fm_ct nb 43 := (by decide : 0 < 1)
theorem sh_43 : fm_sh 43 = (2, 4, []) := rfl
theorem ty_43 : fm_ty 43 = .array .int := rfl
theorem cd_43 (j : Nat) : fm_cd 43 j = 43000 := rfl
theorem kl_44 {nb k : Nat} (h : k < 4) : k < fm_ct nb 44 := h
theorem sh_44 : fm_sh 44 = (0, 15, []) := rfl
theorem ty_44 : fm_ty 44 = .int := rfl
theorem bd_44 (j : Nat) : fm_b 44 j = ((-2147483648), 2147483647) := rfl
theorem cd_44 (j : Nat) : fm_cd 44 j = 44000 := rfl
theorem kl_45 {nb : Nat} : 0 < fm_ct nb 45 := (by decide : 0 < 1)
theorem sh_45 : fm_sh 45 = (2, 4, []) := rfl
theorem ty_45 : fm_ty 45 = .object RX7 := rfl
theorem cd_45 (j : Nat) : fm_cd 45 j = 45000 := rfl
theorem kl_46 {nb k : Nat} (h : k < 4) : k < fm_ct nb 46 := h
theorem sh_46 : fm_sh 46 = (3, 7, [(0, 2), (1, 0), (2, 0)]) := rfl
theorem od_46 : ∀ i, i < ([(0, 2), (1, 0), (2, 0)] : List (Nat × Nat)).length → (([(0, 2), (1, 0), (2, 0)] : List (Nat × Nat)).getD i (0, 0)).1 = i := by decide
theorem tg_46_0 : fm_tg 46 0 = 46 + 1 := rfl
theorem cd_46_0 : fm_cd 46 0 = 46000 := rfl
theorem bd_46_1 : fm_b 46 1 = ((-1), 2) := rfl
theorem cd_46_1 : fm_cd 46 1 = 46001 := rfl
theorem bd_46_2 : fm_b 46 2 = (0, 40) := rfl
theorem cd_46_2 : fm_cd 46 2 = 46002 := rfl
theorem kl_47 {nb k : Nat} (h : k < 4) : k < fm_ct nb 47 := h
theorem sh_47 : fm_sh 47 = (0, 40, []) := rfl
theorem ty_47 : fm_ty 47 = .int := rfl
theorem bd_47 (j : Nat) : fm_b 47 j = ((-2147483648), 2147483647) := rfl
theorem cd_47 (j : Nat) : fm_cd 47 j = 47000 := rfl
theorem kl_48 {nb k : Nat} (h : k < 6) : k < fm_ct nb 48 := h
theorem sh_48 : fm_sh 48 = (3, 9, [(0, 2), (1, 0), (2, 0)]) := rfl
theorem od_48 : ∀ i, i < ([(0, 2), (1, 0), (2, 0)] : List (Nat × Nat)).length → (([(0, 2), (1, 0), (2, 0)] : List (Nat × Nat)).getD i (0, 0)).1 = i := by decide
theorem tg_48_0 : fm_tg 48 0 = 48 + 1 := rfl
theorem cd_48_0 : fm_cd 48 0 = 48000 := rfl
theorem bd_48_1 : fm_b 48 1 = (0, 160) := rfl
theorem cd_48_1 : fm_cd 48 1 = 48001 := rfl
theorem bd_48_2 : fm_b 48 2 = (0, 160) := rfl
theorem cd_48_2 : fm_cd 48 2 = 48002 := rfl
theorem kl_49 {nb k : Nat} (h : k < 6) : k < fm_ct nb 49 := h
theorem sh_49 : fm_sh 49 = (0, 160, []) := rfl
theorem ty_49 : fm_ty 49 = .int := rfl
theorem bd_49 (j : Nat) : fm_b 49 j = ((-2147483648), 2147483647) := rfl
theorem cd_49 (j : Nat) : fm_cd 49 j = 49000 := rfl
theorem kl_50 {nb k : Nat} (h : k < nb) : k < fm_ct nb 50 := h
theorem sh_50 : fm_sh 50 = (3, 0, [(0, 0), (1, 0), (2, 0), (3, 0), (4, 0), (5, 0), (6, 2), (7, 2), (8, 2), (9, 0), (10, 2), (11, 2), (12, 0), (13, 2), (14, 0)]) := rfl
theorem od_50 : ∀ i, i < ([(0, 0), (1, 0), (2, 0), (3, 0), (4, 0), (5, 0), (6, 2), (7, 2), (8, 2), (9, 0), (10, 2), (11, 2), (12, 0), (13, 2), (14, 0)] : List (Nat × Nat)).length → (([(0, 0), (1, 0), (2, 0), (3, 0), (4, 0), (5, 0), (6, 2), (7, 2), (8, 2), (9, 0), (10, 2), (11, 2), (12, 0), (13, 2), (14, 0)] : List (Nat × Nat)).getD i (0, 0)).1 = i := by decide
theorem bd_50_0 : fm_b 50 0 = (0, 5) := rfl
theorem cd_50_0 : fm_cd 50 0 = 50000 := rfl
theorem bd_50_1 : fm_b 50 1 = (0, 63) := rfl
theorem cd_50_1 : fm_cd 50 1 = 50001 := rfl
theorem bd_50_2 : fm_b 50 2 = (0, 239) := rfl
theorem cd_50_2 : fm_cd 50 2 = 50002 := rfl
theorem bd_50_3 : fm_b 50 3 = (0, 20) := rfl
theorem cd_50_3 : fm_cd 50 3 = 50003 := rfl
theorem bd_50_4 : fm_b 50 4 = (0, 999) := rfl
theorem cd_50_4 : fm_cd 50 4 = 50004 := rfl
theorem bd_50_5 : fm_b 50 5 = (0, 9999) := rfl
theorem cd_50_5 : fm_cd 50 5 = 50005 := rfl
theorem tg_50_6 : fm_tg 50 6 = 50 + 1 := rfl
theorem cd_50_6 : fm_cd 50 6 = 50006 := rfl
theorem tg_50_7 : fm_tg 50 7 = 51 + 1 := rfl
theorem cd_50_7 : fm_cd 50 7 = 50007 := rfl
theorem tg_50_8 : fm_tg 50 8 = 52 + 1 := rfl
theorem cd_50_8 : fm_cd 50 8 = 50008 := rfl
theorem bd_50_9 : fm_b 50 9 = (0, 40) := rfl
theorem cd_50_9 : fm_cd 50 9 = 50009 := rfl
theorem tg_50_10 : fm_tg 50 10 = 53 + 1 := rfl
theorem cd_50_10 : fm_cd 50 10 = 50010 := rfl
theorem tg_50_11 : fm_tg 50 11 = 54 + 1 := rfl
theorem cd_50_11 : fm_cd 50 11 = 50011 := rfl
theorem bd_50_12 : fm_b 50 12 = (0, 6) := rfl
theorem cd_50_12 : fm_cd 50 12 = 50012 := rfl
theorem tg_50_13 : fm_tg 50 13 = 55 + 1 := rfl
theorem cd_50_13 : fm_cd 50 13 = 50013 := rfl
theorem bd_50_14 : fm_b 50 14 = ((-1), 239) := rfl
theorem cd_50_14 : fm_cd 50 14 = 50014 := rfl
theorem kl_51 {nb k : Nat} (h : k < nb) : k < fm_ct nb 51 := h
theorem sh_51 : fm_sh 51 = (0, 40, []) := rfl
theorem ty_51 : fm_ty 51 = .int := rfl
theorem bd_51 (j : Nat) : fm_b 51 j = (0, 239) := rfl
theorem cd_51 (j : Nat) : fm_cd 51 j = 51000 := rfl
theorem kl_52 {nb k : Nat} (h : k < nb) : k < fm_ct nb 52 := h
theorem sh_52 : fm_sh 52 = (0, 40, []) := rfl
theorem ty_52 : fm_ty 52 = .int := rfl
theorem bd_52 (j : Nat) : fm_b 52 j = (0, 239) := rfl
theorem cd_52 (j : Nat) : fm_cd 52 j = 52000 := rfl
theorem kl_53 {nb k : Nat} (h : k < nb) : k < fm_ct nb 53 := h
theorem sh_53 : fm_sh 53 = (1, 40, []) := rfl
theorem ty_53 : fm_ty 53 = .long := rfl
theorem cd_53 (j : Nat) : fm_cd 53 j = 53000 := rfl
theorem kl_54 {nb k : Nat} (h : k < nb) : k < fm_ct nb 54 := h
theorem sh_54 : fm_sh 54 = (0, 6, []) := rfl
theorem ty_54 : fm_ty 54 = .int := rfl
theorem bd_54 (j : Nat) : fm_b 54 j = (0, 15) := rfl
theorem cd_54 (j : Nat) : fm_cd 54 j = 54000 := rfl
theorem kl_55 {nb k : Nat} (h : k < nb) : k < fm_ct nb 55 := h
theorem sh_55 : fm_sh 55 = (0, 6, []) := rfl
theorem ty_55 : fm_ty 55 = .int := rfl
theorem bd_55 (j : Nat) : fm_b 55 j = (0, 239) := rfl
theorem cd_55 (j : Nat) : fm_cd 55 j = 55000 := rfl
theorem kl_56 {nb k : Nat} (h : k < nb) : k < fm_ct nb 56 := h
theorem sh_56 : fm_sh 56 = (1, 240, []) := rfl
theorem ty_56 : fm_ty 56 = .long := rfl
theorem cd_56 (j : Nat) : fm_cd 56 j = 56000 := rfl
theorem kl_60 {nb : Nat} : 0 < fm_ct nb 60 := (by decide : 0 < 1)
theorem sh_60 : fm_sh 60 = (3, 12, [(0, 0), (1, 0), (2, 2), (3, 2), (4, 2), (5, 0), (6, 2), (7, 2), (8, 2), (9, 0), (10, 2), (11, 2), (12, 2), (13, 2), (14, 2), (15, 2), (16, 0), (17, 2), (18, 2), (19, 2), (20, 2), (21, 0), (22, 2), (23, 0), (24, 2), (25, 2), (26, 2), (27, 2), (28, 2), (29, 2), (30, 0), (31, 2), (32, 2), (33, 2), (34, 0), (35, 2), (36, 0), (37, 2), (38, 2), (39, 2), (40, 2), (41, 2), (42, 2), (43, 2), (44, 0), (45, 2), (46, 2), (47, 2), (48, 0), (49, 2), (50, 0), (51, 2), (52, 0), (53, 2), (54, 2), (55, 0), (56, 0), (57, 2), (58, 1), (59, 2), (60, 2), (61, 1), (62, 0), (63, 0), (64, 0), (65, 0), (66, 0), (67, 0), (68, 2), (69, 0), (70, 0), (71, 2), (72, 2), (73, 2), (74, 2), (75, 2), (76, 2), (77, 2), (78, 2)]) := rfl
theorem od_60 : ∀ i, i < ([(0, 0), (1, 0), (2, 2), (3, 2), (4, 2), (5, 0), (6, 2), (7, 2), (8, 2), (9, 0), (10, 2), (11, 2), (12, 2), (13, 2), (14, 2), (15, 2), (16, 0), (17, 2), (18, 2), (19, 2), (20, 2), (21, 0), (22, 2), (23, 0), (24, 2), (25, 2), (26, 2), (27, 2), (28, 2), (29, 2), (30, 0), (31, 2), (32, 2), (33, 2), (34, 0), (35, 2), (36, 0), (37, 2), (38, 2), (39, 2), (40, 2), (41, 2), (42, 2), (43, 2), (44, 0), (45, 2), (46, 2), (47, 2), (48, 0), (49, 2), (50, 0), (51, 2), (52, 0), (53, 2), (54, 2), (55, 0), (56, 0), (57, 2), (58, 1), (59, 2), (60, 2), (61, 1), (62, 0), (63, 0), (64, 0), (65, 0), (66, 0), (67, 0), (68, 2), (69, 0), (70, 0), (71, 2), (72, 2), (73, 2), (74, 2), (75, 2), (76, 2), (77, 2), (78, 2)] : List (Nat × Nat)).length → (([(0, 0), (1, 0), (2, 2), (3, 2), (4, 2), (5, 0), (6, 2), (7, 2), (8, 2), (9, 0), (10, 2), (11, 2), (12, 2), (13, 2), (14, 2), (15, 2), (16, 0), (17, 2), (18, 2), (19, 2), (20, 2), (21, 0), (22, 2), (23, 0), (24, 2), (25, 2), (26, 2), (27, 2), (28, 2), (29, 2), (30, 0), (31, 2), (32, 2), (33, 2), (34, 0), (35, 2), (36, 0), (37, 2), (38, 2), (39, 2), (40, 2), (41, 2), (42, 2), (43, 2), (44, 0), (45, 2), (46, 2), (47, 2), (48, 0), (49, 2), (50, 0), (51, 2), (52, 0), (53, 2), (54, 2), (55, 0), (56, 0), (57, 2), (58, 1), (59, 2), (60, 2), (61, 1), (62, 0), (63, 0), (64, 0), (65, 0), (66, 0), (67, 0), (68, 2), (69, 0), (70, 0), (71, 2), (72, 2), (73, 2), (74, 2), (75, 2), (76, 2), (77, 2), (78, 2)] : List (Nat × Nat)).getD i (0, 0)).1 = i := by decide
theorem bd_60_0 : fm_b 60 0 = (0, 239) := rfl
theorem cd_60_0 : fm_cd 60 0 = 60000 := rfl
theorem bd_60_1 : fm_b 60 1 = (0, 9) := rfl
theorem cd_60_1 : fm_cd 60 1 = 60001 := rfl
theorem tg_60_2 : fm_tg 60 2 = 101 + 1 := rfl
theorem cd_60_2 : fm_cd 60 2 = 60002 := rfl
theorem tg_60_3 : fm_tg 60 3 = 102 + 1 := rfl
theorem cd_60_3 : fm_cd 60 3 = 60003 := rfl
theorem tg_60_4 : fm_tg 60 4 = 103 + 1 := rfl
theorem cd_60_4 : fm_cd 60 4 = 60004 := rfl
theorem bd_60_5 : fm_b 60 5 = (0, 30) := rfl
theorem cd_60_5 : fm_cd 60 5 = 60005 := rfl
theorem tg_60_6 : fm_tg 60 6 = 105 + 1 := rfl
theorem cd_60_6 : fm_cd 60 6 = 60006 := rfl
theorem tg_60_7 : fm_tg 60 7 = 106 + 1 := rfl
theorem cd_60_7 : fm_cd 60 7 = 60007 := rfl
theorem tg_60_8 : fm_tg 60 8 = 107 + 1 := rfl
theorem cd_60_8 : fm_cd 60 8 = 60008 := rfl
theorem bd_60_9 : fm_b 60 9 = (0, 30) := rfl
theorem cd_60_9 : fm_cd 60 9 = 60009 := rfl
theorem tg_60_10 : fm_tg 60 10 = 109 + 1 := rfl
theorem cd_60_10 : fm_cd 60 10 = 60010 := rfl
theorem tg_60_11 : fm_tg 60 11 = 110 + 1 := rfl
theorem cd_60_11 : fm_cd 60 11 = 60011 := rfl
theorem tg_60_12 : fm_tg 60 12 = 111 + 1 := rfl
theorem cd_60_12 : fm_cd 60 12 = 60012 := rfl
theorem tg_60_13 : fm_tg 60 13 = 112 + 1 := rfl
theorem cd_60_13 : fm_cd 60 13 = 60013 := rfl
theorem tg_60_14 : fm_tg 60 14 = 113 + 1 := rfl
theorem cd_60_14 : fm_cd 60 14 = 60014 := rfl
theorem tg_60_15 : fm_tg 60 15 = 114 + 1 := rfl
theorem cd_60_15 : fm_cd 60 15 = 60015 := rfl
theorem bd_60_16 : fm_b 60 16 = (0, 12) := rfl
theorem cd_60_16 : fm_cd 60 16 = 60016 := rfl
theorem tg_60_17 : fm_tg 60 17 = 116 + 1 := rfl
theorem cd_60_17 : fm_cd 60 17 = 60017 := rfl
theorem tg_60_18 : fm_tg 60 18 = 117 + 1 := rfl
theorem cd_60_18 : fm_cd 60 18 = 60018 := rfl
theorem tg_60_19 : fm_tg 60 19 = 118 + 1 := rfl
theorem cd_60_19 : fm_cd 60 19 = 60019 := rfl
theorem tg_60_20 : fm_tg 60 20 = 119 + 1 := rfl
theorem cd_60_20 : fm_cd 60 20 = 60020 := rfl
theorem bd_60_21 : fm_b 60 21 = (0, 40) := rfl
theorem cd_60_21 : fm_cd 60 21 = 60021 := rfl
theorem tg_60_22 : fm_tg 60 22 = 121 + 1 := rfl
theorem cd_60_22 : fm_cd 60 22 = 60022 := rfl
theorem bd_60_23 : fm_b 60 23 = (0, 6) := rfl
theorem cd_60_23 : fm_cd 60 23 = 60023 := rfl
theorem tg_60_24 : fm_tg 60 24 = 123 + 1 := rfl
theorem cd_60_24 : fm_cd 60 24 = 60024 := rfl
theorem tg_60_25 : fm_tg 60 25 = 124 + 1 := rfl
theorem cd_60_25 : fm_cd 60 25 = 60025 := rfl
theorem tg_60_26 : fm_tg 60 26 = 125 + 1 := rfl
theorem cd_60_26 : fm_cd 60 26 = 60026 := rfl
theorem tg_60_27 : fm_tg 60 27 = 126 + 1 := rfl
theorem cd_60_27 : fm_cd 60 27 = 60027 := rfl
theorem tg_60_28 : fm_tg 60 28 = 127 + 1 := rfl
theorem cd_60_28 : fm_cd 60 28 = 60028 := rfl
theorem tg_60_29 : fm_tg 60 29 = 128 + 1 := rfl
theorem cd_60_29 : fm_cd 60 29 = 60029 := rfl
theorem bd_60_30 : fm_b 60 30 = (0, 20) := rfl
theorem cd_60_30 : fm_cd 60 30 = 60030 := rfl
theorem tg_60_31 : fm_tg 60 31 = 130 + 1 := rfl
theorem cd_60_31 : fm_cd 60 31 = 60031 := rfl
theorem tg_60_32 : fm_tg 60 32 = 131 + 1 := rfl
theorem cd_60_32 : fm_cd 60 32 = 60032 := rfl
theorem tg_60_33 : fm_tg 60 33 = 132 + 1 := rfl
theorem cd_60_33 : fm_cd 60 33 = 60033 := rfl
theorem bd_60_34 : fm_b 60 34 = (0, 40) := rfl
theorem cd_60_34 : fm_cd 60 34 = 60034 := rfl
theorem tg_60_35 : fm_tg 60 35 = 134 + 1 := rfl
theorem cd_60_35 : fm_cd 60 35 = 60035 := rfl
theorem bd_60_36 : fm_b 60 36 = (0, 16) := rfl
theorem cd_60_36 : fm_cd 60 36 = 60036 := rfl
theorem tg_60_37 : fm_tg 60 37 = 136 + 1 := rfl
theorem cd_60_37 : fm_cd 60 37 = 60037 := rfl
theorem tg_60_38 : fm_tg 60 38 = 137 + 1 := rfl
theorem cd_60_38 : fm_cd 60 38 = 60038 := rfl
theorem tg_60_39 : fm_tg 60 39 = 138 + 1 := rfl
theorem cd_60_39 : fm_cd 60 39 = 60039 := rfl
theorem tg_60_40 : fm_tg 60 40 = 139 + 1 := rfl
theorem cd_60_40 : fm_cd 60 40 = 60040 := rfl
theorem tg_60_41 : fm_tg 60 41 = 140 + 1 := rfl
theorem cd_60_41 : fm_cd 60 41 = 60041 := rfl
theorem tg_60_42 : fm_tg 60 42 = 141 + 1 := rfl
theorem cd_60_42 : fm_cd 60 42 = 60042 := rfl
theorem tg_60_43 : fm_tg 60 43 = 142 + 1 := rfl
theorem cd_60_43 : fm_cd 60 43 = 60043 := rfl
theorem bd_60_44 : fm_b 60 44 = (0, 16) := rfl
theorem cd_60_44 : fm_cd 60 44 = 60044 := rfl
theorem tg_60_45 : fm_tg 60 45 = 144 + 1 := rfl
theorem cd_60_45 : fm_cd 60 45 = 60045 := rfl
theorem tg_60_46 : fm_tg 60 46 = 145 + 1 := rfl
theorem cd_60_46 : fm_cd 60 46 = 60046 := rfl
theorem tg_60_47 : fm_tg 60 47 = 146 + 1 := rfl
theorem cd_60_47 : fm_cd 60 47 = 60047 := rfl
theorem bd_60_48 : fm_b 60 48 = (0, 20) := rfl
theorem cd_60_48 : fm_cd 60 48 = 60048 := rfl
theorem tg_60_49 : fm_tg 60 49 = 148 + 1 := rfl
theorem cd_60_49 : fm_cd 60 49 = 60049 := rfl
theorem bd_60_50 : fm_b 60 50 = (0, 4) := rfl
theorem cd_60_50 : fm_cd 60 50 = 60050 := rfl
theorem tg_60_51 : fm_tg 60 51 = 150 + 1 := rfl
theorem cd_60_51 : fm_cd 60 51 = 60051 := rfl
theorem bd_60_52 : fm_b 60 52 = (0, 160) := rfl
theorem cd_60_52 : fm_cd 60 52 = 60052 := rfl
theorem tg_60_53 : fm_tg 60 53 = 152 + 1 := rfl
theorem cd_60_53 : fm_cd 60 53 = 60053 := rfl
theorem tg_60_54 : fm_tg 60 54 = 153 + 1 := rfl
theorem cd_60_54 : fm_cd 60 54 = 60054 := rfl
theorem bd_60_55 : fm_b 60 55 = (0, 6) := rfl
theorem cd_60_55 : fm_cd 60 55 = 60055 := rfl
theorem bd_60_56 : fm_b 60 56 = (0, 5) := rfl
theorem cd_60_56 : fm_cd 60 56 = 60056 := rfl
theorem tg_60_57 : fm_tg 60 57 = 156 + 1 := rfl
theorem cd_60_57 : fm_cd 60 57 = 60057 := rfl
theorem cd_60_58 : fm_cd 60 58 = 60058 := rfl
theorem tg_60_59 : fm_tg 60 59 = 158 + 1 := rfl
theorem cd_60_59 : fm_cd 60 59 = 60059 := rfl
theorem tg_60_60 : fm_tg 60 60 = 159 + 1 := rfl
theorem cd_60_60 : fm_cd 60 60 = 60060 := rfl
theorem cd_60_61 : fm_cd 60 61 = 60061 := rfl
theorem bd_60_62 : fm_b 60 62 = ((-1), 800) := rfl
theorem cd_60_62 : fm_cd 60 62 = 60062 := rfl
theorem bd_60_63 : fm_b 60 63 = (0, 160) := rfl
theorem cd_60_63 : fm_cd 60 63 = 60063 := rfl
theorem bd_60_64 : fm_b 60 64 = (0, 160) := rfl
theorem cd_60_64 : fm_cd 60 64 = 60064 := rfl
theorem bd_60_65 : fm_b 60 65 = (0, 160) := rfl
theorem cd_60_65 : fm_cd 60 65 = 60065 := rfl
theorem bd_60_66 : fm_b 60 66 = (0, 5) := rfl
theorem cd_60_66 : fm_cd 60 66 = 60066 := rfl
theorem bd_60_67 : fm_b 60 67 = ((-1), 160) := rfl
theorem cd_60_67 : fm_cd 60 67 = 60067 := rfl
theorem tg_60_68 : fm_tg 60 68 = 167 + 1 := rfl
theorem cd_60_68 : fm_cd 60 68 = 60068 := rfl
theorem bd_60_69 : fm_b 60 69 = ((-2147483648), 2147483647) := rfl
theorem cd_60_69 : fm_cd 60 69 = 60069 := rfl
theorem bd_60_70 : fm_b 60 70 = ((-2147483648), 2147483647) := rfl
theorem cd_60_70 : fm_cd 60 70 = 60070 := rfl
theorem tg_60_71 : fm_tg 60 71 = 170 + 1 := rfl
theorem cd_60_71 : fm_cd 60 71 = 60071 := rfl
theorem tg_60_72 : fm_tg 60 72 = 171 + 1 := rfl
theorem cd_60_72 : fm_cd 60 72 = 60072 := rfl
theorem tg_60_73 : fm_tg 60 73 = 172 + 1 := rfl
theorem cd_60_73 : fm_cd 60 73 = 60073 := rfl
theorem tg_60_74 : fm_tg 60 74 = 173 + 1 := rfl
theorem cd_60_74 : fm_cd 60 74 = 60074 := rfl
theorem tg_60_75 : fm_tg 60 75 = 174 + 1 := rfl
theorem cd_60_75 : fm_cd 60 75 = 60075 := rfl
theorem tg_60_76 : fm_tg 60 76 = 175 + 1 := rfl
theorem cd_60_76 : fm_cd 60 76 = 60076 := rfl
theorem tg_60_77 : fm_tg 60 77 = 176 + 1 := rfl
theorem cd_60_77 : fm_cd 60 77 = 60077 := rfl
theorem tg_60_78 : fm_tg 60 78 = 177 + 1 := rfl
theorem cd_60_78 : fm_cd 60 78 = 60078 := rfl
theorem kl_102 {nb : Nat} : 0 < fm_ct nb 102 := (by decide : 0 < 1)
theorem sh_102 : fm_sh 102 = (0, 30, []) := rfl
theorem ty_102 : fm_ty 102 = .int := rfl
theorem bd_102 (j : Nat) : fm_b 102 j = (0, 240) := rfl
theorem cd_102 (j : Nat) : fm_cd 102 j = 102000 := rfl
theorem kl_103 {nb : Nat} : 0 < fm_ct nb 103 := (by decide : 0 < 1)
theorem sh_103 : fm_sh 103 = (0, 30, []) := rfl
theorem ty_103 : fm_ty 103 = .int := rfl
theorem bd_103 (j : Nat) : fm_b 103 j = (0, 240) := rfl
theorem cd_103 (j : Nat) : fm_cd 103 j = 103000 := rfl
theorem kl_104 {nb : Nat} : 0 < fm_ct nb 104 := (by decide : 0 < 1)
theorem sh_104 : fm_sh 104 = (0, 30, []) := rfl
theorem ty_104 : fm_ty 104 = .int := rfl
theorem bd_104 (j : Nat) : fm_b 104 j = (0, 4444) := rfl
theorem cd_104 (j : Nat) : fm_cd 104 j = 104000 := rfl
theorem kl_106 {nb : Nat} : 0 < fm_ct nb 106 := (by decide : 0 < 1)
theorem sh_106 : fm_sh 106 = (0, 30, []) := rfl
theorem ty_106 : fm_ty 106 = .int := rfl
theorem bd_106 (j : Nat) : fm_b 106 j = (0, 240) := rfl
theorem cd_106 (j : Nat) : fm_cd 106 j = 106000 := rfl
theorem kl_107 {nb : Nat} : 0 < fm_ct nb 107 := (by decide : 0 < 1)
theorem sh_107 : fm_sh 107 = (0, 30, []) := rfl
theorem ty_107 : fm_ty 107 = .int := rfl
theorem bd_107 (j : Nat) : fm_b 107 j = (0, 240) := rfl
theorem cd_107 (j : Nat) : fm_cd 107 j = 107000 := rfl
theorem kl_108 {nb : Nat} : 0 < fm_ct nb 108 := (by decide : 0 < 1)
theorem sh_108 : fm_sh 108 = (0, 30, []) := rfl
theorem ty_108 : fm_ty 108 = .int := rfl
theorem bd_108 (j : Nat) : fm_b 108 j = (0, 16) := rfl
theorem cd_108 (j : Nat) : fm_cd 108 j = 108000 := rfl
theorem kl_110 {nb : Nat} : 0 < fm_ct nb 110 := (by decide : 0 < 1)
theorem sh_110 : fm_sh 110 = (0, 12, []) := rfl
theorem ty_110 : fm_ty 110 = .int := rfl
theorem bd_110 (j : Nat) : fm_b 110 j = (0, 5) := rfl
theorem cd_110 (j : Nat) : fm_cd 110 j = 110000 := rfl
theorem kl_111 {nb : Nat} : 0 < fm_ct nb 111 := (by decide : 0 < 1)
theorem sh_111 : fm_sh 111 = (0, 12, []) := rfl
theorem ty_111 : fm_ty 111 = .int := rfl
theorem bd_111 (j : Nat) : fm_b 111 j = (0, 239) := rfl
theorem cd_111 (j : Nat) : fm_cd 111 j = 111000 := rfl
theorem kl_112 {nb : Nat} : 0 < fm_ct nb 112 := (by decide : 0 < 1)
theorem sh_112 : fm_sh 112 = (0, 12, []) := rfl
theorem ty_112 : fm_ty 112 = .int := rfl
theorem bd_112 (j : Nat) : fm_b 112 j = (0, 63) := rfl
theorem cd_112 (j : Nat) : fm_cd 112 j = 112000 := rfl
theorem kl_113 {nb : Nat} : 0 < fm_ct nb 113 := (by decide : 0 < 1)
theorem sh_113 : fm_sh 113 = (0, 12, []) := rfl
theorem ty_113 : fm_ty 113 = .int := rfl
theorem bd_113 (j : Nat) : fm_b 113 j = (0, 20) := rfl
theorem cd_113 (j : Nat) : fm_cd 113 j = 113000 := rfl
theorem kl_114 {nb : Nat} : 0 < fm_ct nb 114 := (by decide : 0 < 1)
theorem sh_114 : fm_sh 114 = (0, 12, []) := rfl
theorem ty_114 : fm_ty 114 = .int := rfl
theorem bd_114 (j : Nat) : fm_b 114 j = (0, 9999) := rfl
theorem cd_114 (j : Nat) : fm_cd 114 j = 114000 := rfl
theorem kl_115 {nb : Nat} : 0 < fm_ct nb 115 := (by decide : 0 < 1)
theorem sh_115 : fm_sh 115 = (0, 12, []) := rfl
theorem ty_115 : fm_ty 115 = .int := rfl
theorem bd_115 (j : Nat) : fm_b 115 j = (0, 999) := rfl
theorem cd_115 (j : Nat) : fm_cd 115 j = 115000 := rfl
theorem kl_117 {nb : Nat} : 0 < fm_ct nb 117 := (by decide : 0 < 1)
theorem sh_117 : fm_sh 117 = (0, 40, []) := rfl
theorem ty_117 : fm_ty 117 = .int := rfl
theorem bd_117 (j : Nat) : fm_b 117 j = (0, 11) := rfl
theorem cd_117 (j : Nat) : fm_cd 117 j = 117000 := rfl
theorem kl_118 {nb : Nat} : 0 < fm_ct nb 118 := (by decide : 0 < 1)
theorem sh_118 : fm_sh 118 = (0, 40, []) := rfl
theorem ty_118 : fm_ty 118 = .int := rfl
theorem bd_118 (j : Nat) : fm_b 118 j = (0, 239) := rfl
theorem cd_118 (j : Nat) : fm_cd 118 j = 118000 := rfl
theorem kl_119 {nb : Nat} : 0 < fm_ct nb 119 := (by decide : 0 < 1)
theorem sh_119 : fm_sh 119 = (1, 40, []) := rfl
theorem ty_119 : fm_ty 119 = .long := rfl
theorem cd_119 (j : Nat) : fm_cd 119 j = 119000 := rfl
theorem kl_120 {nb : Nat} : 0 < fm_ct nb 120 := (by decide : 0 < 1)
theorem sh_120 : fm_sh 120 = (0, 40, []) := rfl
theorem ty_120 : fm_ty 120 = .int := rfl
theorem bd_120 (j : Nat) : fm_b 120 j = (0, 239) := rfl
theorem cd_120 (j : Nat) : fm_cd 120 j = 120000 := rfl
theorem kl_122 {nb : Nat} : 0 < fm_ct nb 122 := (by decide : 0 < 1)
theorem sh_122 : fm_sh 122 = (0, 6, []) := rfl
theorem ty_122 : fm_ty 122 = .int := rfl
theorem bd_122 (j : Nat) : fm_b 122 j = (0, 63) := rfl
theorem cd_122 (j : Nat) : fm_cd 122 j = 122000 := rfl
theorem kl_124 {nb : Nat} : 0 < fm_ct nb 124 := (by decide : 0 < 1)
theorem sh_124 : fm_sh 124 = (0, 8, []) := rfl
theorem ty_124 : fm_ty 124 = .int := rfl
theorem bd_124 (j : Nat) : fm_b 124 j = (0, 9) := rfl
theorem cd_124 (j : Nat) : fm_cd 124 j = 124000 := rfl
theorem kl_125 {nb : Nat} : 0 < fm_ct nb 125 := (by decide : 0 < 1)
theorem sh_125 : fm_sh 125 = (0, 8, []) := rfl
theorem ty_125 : fm_ty 125 = .int := rfl
theorem bd_125 (j : Nat) : fm_b 125 j = (0, 9) := rfl
theorem cd_125 (j : Nat) : fm_cd 125 j = 125000 := rfl
theorem kl_126 {nb : Nat} : 0 < fm_ct nb 126 := (by decide : 0 < 1)
theorem sh_126 : fm_sh 126 = (0, 20, []) := rfl
theorem ty_126 : fm_ty 126 = .int := rfl
theorem bd_126 (j : Nat) : fm_b 126 j = (0, 11) := rfl
theorem cd_126 (j : Nat) : fm_cd 126 j = 126000 := rfl
theorem kl_127 {nb : Nat} : 0 < fm_ct nb 127 := (by decide : 0 < 1)
theorem sh_127 : fm_sh 127 = (0, 20, []) := rfl
theorem ty_127 : fm_ty 127 = .int := rfl
theorem bd_127 (j : Nat) : fm_b 127 j = (0, 3) := rfl
theorem cd_127 (j : Nat) : fm_cd 127 j = 127000 := rfl
theorem kl_128 {nb : Nat} : 0 < fm_ct nb 128 := (by decide : 0 < 1)
theorem sh_128 : fm_sh 128 = (0, 20, []) := rfl
theorem ty_128 : fm_ty 128 = .int := rfl
theorem bd_128 (j : Nat) : fm_b 128 j = (0, 239) := rfl
theorem cd_128 (j : Nat) : fm_cd 128 j = 128000 := rfl
theorem kl_129 {nb : Nat} : 0 < fm_ct nb 129 := (by decide : 0 < 1)
theorem sh_129 : fm_sh 129 = (1, 20, []) := rfl
theorem ty_129 : fm_ty 129 = .long := rfl
theorem cd_129 (j : Nat) : fm_cd 129 j = 129000 := rfl
theorem kl_131 {nb : Nat} : 0 < fm_ct nb 131 := (by decide : 0 < 1)
theorem sh_131 : fm_sh 131 = (0, 40, []) := rfl
theorem ty_131 : fm_ty 131 = .int := rfl
theorem bd_131 (j : Nat) : fm_b 131 j = (0, 19) := rfl
theorem cd_131 (j : Nat) : fm_cd 131 j = 131000 := rfl
theorem kl_132 {nb : Nat} : 0 < fm_ct nb 132 := (by decide : 0 < 1)
theorem sh_132 : fm_sh 132 = (0, 40, []) := rfl
theorem ty_132 : fm_ty 132 = .int := rfl
theorem bd_132 (j : Nat) : fm_b 132 j = (0, 65535) := rfl
theorem cd_132 (j : Nat) : fm_cd 132 j = 132000 := rfl
theorem kl_133 {nb : Nat} : 0 < fm_ct nb 133 := (by decide : 0 < 1)
theorem sh_133 : fm_sh 133 = (1, 40, []) := rfl
theorem ty_133 : fm_ty 133 = .long := rfl
theorem cd_133 (j : Nat) : fm_cd 133 j = 133000 := rfl
theorem kl_135 {nb : Nat} : 0 < fm_ct nb 135 := (by decide : 0 < 1)
theorem sh_135 : fm_sh 135 = (1, 16, []) := rfl
theorem ty_135 : fm_ty 135 = .long := rfl
theorem cd_135 (j : Nat) : fm_cd 135 j = 135000 := rfl
theorem kl_137 {nb : Nat} : 0 < fm_ct nb 137 := (by decide : 0 < 1)
theorem sh_137 : fm_sh 137 = (0, 72, []) := rfl
theorem ty_137 : fm_ty 137 = .int := rfl
theorem bd_137 (j : Nat) : fm_b 137 j = (0, 15) := rfl
theorem cd_137 (j : Nat) : fm_cd 137 j = 137000 := rfl
theorem kl_138 {nb : Nat} : 0 < fm_ct nb 138 := (by decide : 0 < 1)
theorem sh_138 : fm_sh 138 = (0, 72, []) := rfl
theorem ty_138 : fm_ty 138 = .int := rfl
theorem bd_138 (j : Nat) : fm_b 138 j = (0, 16) := rfl
theorem cd_138 (j : Nat) : fm_cd 138 j = 138000 := rfl
theorem kl_139 {nb : Nat} : 0 < fm_ct nb 139 := (by decide : 0 < 1)
theorem sh_139 : fm_sh 139 = (0, 12, []) := rfl
theorem ty_139 : fm_ty 139 = .int := rfl
theorem bd_139 (j : Nat) : fm_b 139 j = (0, 6) := rfl
theorem cd_139 (j : Nat) : fm_cd 139 j = 139000 := rfl
theorem kl_140 {nb : Nat} : 0 < fm_ct nb 140 := (by decide : 0 < 1)
theorem sh_140 : fm_sh 140 = (0, 16, []) := rfl
theorem ty_140 : fm_ty 140 = .int := rfl
theorem bd_140 (j : Nat) : fm_b 140 j = (0, 11) := rfl
theorem cd_140 (j : Nat) : fm_cd 140 j = 140000 := rfl
theorem kl_141 {nb : Nat} : 0 < fm_ct nb 141 := (by decide : 0 < 1)
theorem sh_141 : fm_sh 141 = (0, 16, []) := rfl
theorem ty_141 : fm_ty 141 = .int := rfl
theorem bd_141 (j : Nat) : fm_b 141 j = (0, 99) := rfl
theorem cd_141 (j : Nat) : fm_cd 141 j = 141000 := rfl
theorem kl_142 {nb : Nat} : 0 < fm_ct nb 142 := (by decide : 0 < 1)
theorem sh_142 : fm_sh 142 = (0, 16, []) := rfl
theorem ty_142 : fm_ty 142 = .int := rfl
theorem bd_142 (j : Nat) : fm_b 142 j = (0, 99) := rfl
theorem cd_142 (j : Nat) : fm_cd 142 j = 142000 := rfl
theorem kl_143 {nb : Nat} : 0 < fm_ct nb 143 := (by decide : 0 < 1)
theorem sh_143 : fm_sh 143 = (0, 16, []) := rfl
theorem ty_143 : fm_ty 143 = .int := rfl
theorem bd_143 (j : Nat) : fm_b 143 j = (0, 99) := rfl
theorem cd_143 (j : Nat) : fm_cd 143 j = 143000 := rfl
theorem kl_145 {nb : Nat} : 0 < fm_ct nb 145 := (by decide : 0 < 1)
theorem sh_145 : fm_sh 145 = (0, 20, []) := rfl
theorem ty_145 : fm_ty 145 = .int := rfl
theorem bd_145 (j : Nat) : fm_b 145 j = (0, 11) := rfl
theorem cd_145 (j : Nat) : fm_cd 145 j = 145000 := rfl
theorem kl_146 {nb : Nat} : 0 < fm_ct nb 146 := (by decide : 0 < 1)
theorem sh_146 : fm_sh 146 = (0, 20, []) := rfl
theorem ty_146 : fm_ty 146 = .int := rfl
theorem bd_146 (j : Nat) : fm_b 146 j = (0, 63) := rfl
theorem cd_146 (j : Nat) : fm_cd 146 j = 146000 := rfl
theorem kl_147 {nb : Nat} : 0 < fm_ct nb 147 := (by decide : 0 < 1)
theorem sh_147 : fm_sh 147 = (0, 20, []) := rfl
theorem ty_147 : fm_ty 147 = .int := rfl
theorem bd_147 (j : Nat) : fm_b 147 j = (0, 239) := rfl
theorem cd_147 (j : Nat) : fm_cd 147 j = 147000 := rfl
theorem kl_149 {nb : Nat} : 0 < fm_ct nb 149 := (by decide : 0 < 1)
theorem sh_149 : fm_sh 149 = (0, 60, []) := rfl
theorem ty_149 : fm_ty 149 = .int := rfl
theorem bd_149 (j : Nat) : fm_b 149 j = ((-2147483648), 2147483647) := rfl
theorem cd_149 (j : Nat) : fm_cd 149 j = 149000 := rfl
theorem kl_151 {nb : Nat} : 0 < fm_ct nb 151 := (by decide : 0 < 1)
theorem sh_151 : fm_sh 151 = (0, 160, []) := rfl
theorem ty_151 : fm_ty 151 = .int := rfl
theorem bd_151 (j : Nat) : fm_b 151 j = ((-2147483648), 2147483647) := rfl
theorem cd_151 (j : Nat) : fm_cd 151 j = 151000 := rfl
theorem kl_153 {nb : Nat} : 0 < fm_ct nb 153 := (by decide : 0 < 1)
theorem sh_153 : fm_sh 153 = (0, 960, []) := rfl
theorem ty_153 : fm_ty 153 = .int := rfl
theorem bd_153 (j : Nat) : fm_b 153 j = ((-2147483648), 2147483647) := rfl
theorem cd_153 (j : Nat) : fm_cd 153 j = 153000 := rfl
theorem kl_154 {nb : Nat} : 0 < fm_ct nb 154 := (by decide : 0 < 1)
theorem sh_154 : fm_sh 154 = (0, 6, []) := rfl
theorem ty_154 : fm_ty 154 = .int := rfl
theorem bd_154 (j : Nat) : fm_b 154 j = (0, 160) := rfl
theorem cd_154 (j : Nat) : fm_cd 154 j = 154000 := rfl
theorem kl_157 {nb : Nat} : 0 < fm_ct nb 157 := (by decide : 0 < 1)
theorem sh_157 : fm_sh 157 = (1, 64, []) := rfl
theorem ty_157 : fm_ty 157 = .long := rfl
theorem cd_157 (j : Nat) : fm_cd 157 j = 157000 := rfl
theorem kl_159 {nb : Nat} : 0 < fm_ct nb 159 := (by decide : 0 < 1)
theorem sh_159 : fm_sh 159 = (0, 3, []) := rfl
theorem ty_159 : fm_ty 159 = .int := rfl
theorem bd_159 (j : Nat) : fm_b 159 j = (0, 15) := rfl
theorem cd_159 (j : Nat) : fm_cd 159 j = 159000 := rfl
theorem kl_160 {nb : Nat} : 0 < fm_ct nb 160 := (by decide : 0 < 1)
theorem sh_160 : fm_sh 160 = (0, 3, []) := rfl
theorem ty_160 : fm_ty 160 = .int := rfl
theorem bd_160 (j : Nat) : fm_b 160 j = (0, 15) := rfl
theorem cd_160 (j : Nat) : fm_cd 160 j = 160000 := rfl
theorem kl_168 {nb : Nat} : 0 < fm_ct nb 168 := (by decide : 0 < 1)
theorem sh_168 : fm_sh 168 = (0, 6, []) := rfl
theorem ty_168 : fm_ty 168 = .int := rfl
theorem bd_168 (j : Nat) : fm_b 168 j = ((-2147483648), 2147483647) := rfl
theorem cd_168 (j : Nat) : fm_cd 168 j = 168000 := rfl
theorem kl_171 {nb : Nat} : 0 < fm_ct nb 171 := (by decide : 0 < 1)
theorem sh_171 : fm_sh 171 = (0, 16, []) := rfl
theorem ty_171 : fm_ty 171 = .int := rfl
theorem bd_171 (j : Nat) : fm_b 171 j = ((-2147483648), 2147483647) := rfl
theorem cd_171 (j : Nat) : fm_cd 171 j = 171000 := rfl
theorem kl_172 {nb : Nat} : 0 < fm_ct nb 172 := (by decide : 0 < 1)
theorem sh_172 : fm_sh 172 = (0, 16, []) := rfl
theorem ty_172 : fm_ty 172 = .int := rfl
theorem bd_172 (j : Nat) : fm_b 172 j = (0, 15) := rfl
theorem cd_172 (j : Nat) : fm_cd 172 j = 172000 := rfl
theorem kl_173 {nb : Nat} : 0 < fm_ct nb 173 := (by decide : 0 < 1)
theorem sh_173 : fm_sh 173 = (0, 5, []) := rfl
theorem ty_173 : fm_ty 173 = .int := rfl
theorem bd_173 (j : Nat) : fm_b 173 j = (0, 2) := rfl
theorem cd_173 (j : Nat) : fm_cd 173 j = 173000 := rfl
theorem kl_174 {nb : Nat} : 0 < fm_ct nb 174 := (by decide : 0 < 1)
theorem sh_174 : fm_sh 174 = (0, 5, []) := rfl
theorem ty_174 : fm_ty 174 = .int := rfl
theorem bd_174 (j : Nat) : fm_b 174 j = (0, 2) := rfl
theorem cd_174 (j : Nat) : fm_cd 174 j = 174000 := rfl
theorem kl_175 {nb : Nat} : 0 < fm_ct nb 175 := (by decide : 0 < 1)
theorem sh_175 : fm_sh 175 = (0, 4, []) := rfl
theorem ty_175 : fm_ty 175 = .int := rfl
theorem bd_175 (j : Nat) : fm_b 175 j = ((-1), 2) := rfl
theorem cd_175 (j : Nat) : fm_cd 175 j = 175000 := rfl
theorem kl_176 {nb : Nat} : 0 < fm_ct nb 176 := (by decide : 0 < 1)
theorem sh_176 : fm_sh 176 = (0, 4, []) := rfl
theorem ty_176 : fm_ty 176 = .int := rfl
theorem bd_176 (j : Nat) : fm_b 176 j = (0, 40) := rfl
theorem cd_176 (j : Nat) : fm_cd 176 j = 176000 := rfl
theorem kl_177 {nb : Nat} : 0 < fm_ct nb 177 := (by decide : 0 < 1)
theorem sh_177 : fm_sh 177 = (0, 160, []) := rfl
theorem ty_177 : fm_ty 177 = .int := rfl
theorem bd_177 (j : Nat) : fm_b 177 j = ((-2147483648), 2147483647) := rfl
theorem cd_177 (j : Nat) : fm_cd 177 j = 177000 := rfl
theorem kl_178 {nb : Nat} : 0 < fm_ct nb 178 := (by decide : 0 < 1)
theorem sh_178 : fm_sh 178 = (0, 40, []) := rfl
theorem ty_178 : fm_ty 178 = .int := rfl
theorem bd_178 (j : Nat) : fm_b 178 j = ((-2147483648), 2147483647) := rfl
theorem cd_178 (j : Nat) : fm_cd 178 j = 178000 := rfl
