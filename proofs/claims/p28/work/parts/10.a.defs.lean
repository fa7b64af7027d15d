/-- whether a set of cells has one -/
def rt_has (q : Int64) (k : Int32) : Prop := ¬ (q.toUInt64 >>> (k.toInt64.toUInt64 &&& Int64.toUInt64 63)).toInt64 &&& 1 = 0
def rt_dg (q : Int64) (k : Int32) : Int32 := ((q.toUInt64 >>> ((4 * k).toInt64.toUInt64 &&& Int64.toUInt64 63)).toInt64 &&& 15).toInt32
theorem fm_cq {p : Program} {l : Launch} {e : Env} {R : Room} {s : State} {m : MethodId} {args : Array Value} {below : List Frame} {meth : Method} {c : Code} {H : Heap} {locs : List Loc} {cells slots : Nat} {Q : State → Prop} {pc : Nat} {ls : Array Slot} {rest st0 : List Value} {D : va_G} {ad : Nat → Nat → Nat} {C : Nat → Nat → ClassId} {nb : Nat} {A : Nat → Prop} {H0 : Heap} {a : Array Value} {post : Option Nat → fm_M → Prop} (hr : va_Run p l e R s m args below meth c H locs cells slots 0 0 (F0 m pc ls st0) rest (va_Qq post (fun u t => fm_at D ad C nb u t.heap) (fm_A nb ad) a) (fm_A nb ad)) (hS : va_S A H0 H locs) (hc : fm_Cx D ad C nb A s)
    (kk : ∀ (r : Option Nat) (M1 : fm_M) (H1 : Heap) (locs1 : List Loc), post r M1 → fm_at D ad C nb M1 H1 → va_S A H0 H1 locs1 → W p l e R s m args below meth c H1 locs1 cells slots Q (F0 m (pc + 3) ls (va_rf r :: rest))) : W p l e R s m args below meth c H locs cells slots Q (F0 m pc ls st0) :=
  va_callq hr hS (fun q _ h => hc.2.2.2.2.2 q h) (fun q h => hc.2.2.2.2.2 q h) (fun r u t H1 locs1 ht _ hp hB _ _ hS1 => kk r u H1 locs1 hp (by rw [← ht]; exact hB) hS1)
theorem fm_wI_ar {M : fm_M} {q k i j : Nat} {x : Int32} : (fm_wI M q k i x).1 q k j = if j = i then x else M.1 q k j := by
  by_cases h : j = i
  · subst h
    rw [fm_wI_at, if_pos rfl]
  · rw [fm_wI_nj (fun z => h z.2.2), if_neg h]
theorem fm_wI_ob {M : fm_M} {q k f j : Nat} {x : Int32} : (fm_wI M q k f x).1 q j f = if j = k then x else M.1 q j f := by
  by_cases h : j = k
  · subst h
    rw [fm_wI_at, if_pos rfl]
  · rw [fm_wI_nj (fun z => h z.2.1), if_neg h]
theorem rt_under {i : Int32} (h : 0 ≤ i.toInt ∧ i.toInt < 6) : (i.toInt = 0 ∧ (([-1, 0, 0, 1, 1, 2] : List Int32).getD i.toNatClampNeg 0).toInt = -1) ∨ (i.toInt = 1 ∧ (([-1, 0, 0, 1, 1, 2] : List Int32).getD i.toNatClampNeg 0).toInt = 0) ∨ (i.toInt = 2 ∧ (([-1, 0, 0, 1, 1, 2] : List Int32).getD i.toNatClampNeg 0).toInt = 0) ∨ (i.toInt = 3 ∧ (([-1, 0, 0, 1, 1, 2] : List Int32).getD i.toNatClampNeg 0).toInt = 1) ∨ (i.toInt = 4 ∧ (([-1, 0, 0, 1, 1, 2] : List Int32).getD i.toNatClampNeg 0).toInt = 1) ∨ (i.toInt = 5 ∧ (([-1, 0, 0, 1, 1, 2] : List Int32).getD i.toNatClampNeg 0).toInt = 2) := by
  rcases (show i = 0 ∨ i = 1 ∨ i = 2 ∨ i = 3 ∨ i = 4 ∨ i = 5 by simp only [fa_eq, Int32.reduceToInt]; omega) with rfl | rfl | rfl | rfl | rfl | rfl <;> decide
theorem rt_und {i : Int32} {w : Int} (h : 0 < i.toInt ∧ i.toInt < 6) (hn : ¬ i.toInt = w) : (w = 0 ∨ (([-1, 0, 0, 1, 1, 2] : List Int32).getD i.toNatClampNeg 0).toInt = w ∨ ((([-1, 0, 0, 1, 1, 2] : List Int32).getD i.toNatClampNeg 0).toInt = 5 ∧ w = 2) ∨ (((([-1, 0, 0, 1, 1, 2] : List Int32).getD i.toNatClampNeg 0).toInt = 3 ∨ (([-1, 0, 0, 1, 1, 2] : List Int32).getD i.toNatClampNeg 0).toInt = 4) ∧ w = 1)) ↔ (w = 0 ∨ i.toInt = w ∨ (i.toInt = 5 ∧ w = 2) ∨ ((i.toInt = 3 ∨ i.toInt = 4) ∧ w = 1)) := by
  rcases rt_under (i := i) (by omega) with ⟨h1, h2⟩ | ⟨h1, h2⟩ | ⟨h1, h2⟩ | ⟨h1, h2⟩ | ⟨h1, h2⟩ | ⟨h1, h2⟩ <;> rw [h1, h2] <;> rw [h1] at hn <;> omega
theorem fm_I.bd {nb : Nat} {ad : Nat → Nat → Nat} {M : fm_M} (hI : fm_I nb ad M) {a k j : Nat} {lo up : Int} (h : fm_b a j = (lo, up)) : lo ≤ (M.1 a k j).toInt ∧ (M.1 a k j).toInt ≤ up := by
  have h2 := hI.1 a k j
  rw [h] at h2
  exact h2
theorem rt_ifx {c d : Prop} [Decidable c] [Decidable d] {x y : Int32} (h : c ↔ d) : (if c then x else y) = if d then x else y := by
  by_cases z : c
  · rw [if_pos z, if_pos (h.mp z)]
  · rw [if_neg z, if_neg (fun w => z (h.mpr w))]
theorem fm_wL_ar {M : fm_M} {q k i j : Nat} {x : Int64} : (fm_wL M q k i x).2.1 q k j = if j = i then x else M.2.1 q k j := by
  by_cases h : j = i
  · subst h
    rw [fm_wL_at, if_pos rfl]
  · rw [fm_wL_nj (fun z => h z.2.2), if_neg h]
theorem zi_tn {a b : Int32} (h : a.toInt = b.toInt) : a.toNatClampNeg = b.toNatClampNeg := by rw [Int32.toNatClampNeg, Int32.toNatClampNeg, h]
theorem zi_tns {k k1 : Int32} (h1 : k1.toInt = k.toInt + 1) (h0 : 0 ≤ k.toInt) : k1.toNatClampNeg = k.toNatClampNeg + 1 := by rw [Int32.toNatClampNeg, Int32.toNatClampNeg]; omega
theorem zi_ofn {k : Int32} (h0 : 0 ≤ k.toInt) : Int32.ofNat k.toNatClampNeg = k := by
  rw [fa_eq, Int32.toInt_ofNat_of_lt]
  · rw [Int32.toNatClampNeg]; omega
  · have := Int32.toInt_lt k; rw [Int32.toNatClampNeg]; omega
