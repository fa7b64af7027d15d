/-- whether a set of cells has one -/
def rt_has (q : Int64) (k : Int32) : Prop := ¬ (q.toUInt64 >>> (k.toInt64.toUInt64 &&& Int64.toUInt64 63)).toInt64 &&& 1 = 0
def rt_dg (q : Int64) (k : Int32) : Int32 := ((q.toUInt64 >>> ((4 * k).toInt64.toUInt64 &&& Int64.toUInt64 63)).toInt64 &&& 15).toInt32
theorem fm_cq {p : Program} {l : Launch} {e : Env} {R : Room} {s : State} {m : MethodId} {args : Array Value} {below : List Frame} {meth : Method} {c : Code} {H : Heap} {locs : List Loc} {cells slots : Nat} {Q : State → Prop} {pc : Nat} {ls : Array Slot} {rest st0 : List Value} {D : va_G} {ad : Nat → Nat → Nat} {C : Nat → Nat → ClassId} {nb : Nat} {A : Nat → Prop} {H0 : Heap} {a : Array Value} {post : Option Nat → fm_M → Prop} (hr : va_Run p l e R s m args below meth c H locs cells slots 0 0 (F0 m pc ls st0) rest (va_Qq post (fun u t => fm_at D ad C nb u t.heap) (fm_A nb ad) a) (fm_A nb ad)) (hS : va_S A H0 H locs) (hc : fm_Cx D ad C nb A s)
    (kk : ∀ (r : Option Nat) (M1 : fm_M) (H1 : Heap) (locs1 : List Loc), post r M1 → fm_at D ad C nb M1 H1 → va_S A H0 H1 locs1 → W p l e R s m args below meth c H1 locs1 cells slots Q (F0 m (pc + 3) ls (va_rf r :: rest))) : W p l e R s m args below meth c H locs cells slots Q (F0 m pc ls st0) :=
  va_callq hr hS (fun q _ h => hc.2.2.2.2.2 q h) (fun q h => hc.2.2.2.2.2 q h) (fun r u t H1 locs1 ht _ hp hB _ _ hS1 => kk r u H1 locs1 hp (by rw [← ht]; exact hB) hS1)
theorem fm_wI_ar {M : fm_M} {q k i j : Nat} {x : Int32} : (fm_wI M q k i x).1 q k j = if j = i then x else M.1 q k j := by
  by_cases h : j = i
  · subst h
    rw [fm_wI_at, if_pos rfl]
  · rw [fm_wI_nj (fun z => h z.2.2), if_neg h]
theorem fm_wI_ob {M : fm_M} {q k f j : Nat} {x : Int32} : (fm_wI M q k f x).1 q j f = if j = k then x else M.1 q j f := by
  by_cases h : j = k
  · subst h
    rw [fm_wI_at, if_pos rfl]
  · rw [fm_wI_nj (fun z => h z.2.1), if_neg h]
theorem rt_under {i : Int32} (h : 0 ≤ i.toInt ∧ i.toInt < 6) : (i.toInt = 0 ∧ (([-1, 0, 0, 1, 1, 2] : List Int32).getD i.toNatClampNeg 0).toInt = -1) ∨ (i.toInt = 1 ∧ (([-1, 0, 0, 1, 1, 2] : List Int32).getD i.toNatClampNeg 0).toInt = 0) ∨ (i.toInt = 2 ∧ (([-1, 0, 0, 1, 1, 2] : List Int32).getD i.toNatClampNeg 0).toInt = 0) ∨ (i.toInt = 3 ∧ (([-1, 0, 0, 1, 1, 2] : List Int32).getD i.toNatClampNeg 0).toInt = 1) ∨ (i.toInt = 4 ∧ (([-1, 0, 0, 1, 1, 2] : List Int32).getD i.toNatClampNeg 0).toInt = 1) ∨ (i.toInt = 5 ∧ (([-1, 0, 0, 1, 1, 2] : List Int32).getD i.toNatClampNeg 0).toInt = 2) := by
  rcases (show i = 0 ∨ i = 1 ∨ i = 2 ∨ i = 3 ∨ i = 4 ∨ i = 5 by simp only [fa_eq, Int32.reduceToInt]; omega) with rfl | rfl | rfl | rfl | rfl | rfl <;> decide
theorem rt_und {i : Int32} {w : Int} (h : 0 < i.toInt ∧ i.toInt < 6) (hn : ¬ i.toInt = w) : (w = 0 ∨ (([-1, 0, 0, 1, 1, 2] : List Int32).getD i.toNatClampNeg 0).toInt = w ∨ ((([-1, 0, 0, 1, 1, 2] : List Int32).getD i.toNatClampNeg 0).toInt = 5 ∧ w = 2) ∨ (((([-1, 0, 0, 1, 1, 2] : List Int32).getD i.toNatClampNeg 0).toInt = 3 ∨ (([-1, 0, 0, 1, 1, 2] : List Int32).getD i.toNatClampNeg 0).toInt = 4) ∧ w = 1)) ↔ (w = 0 ∨ i.toInt = w ∨ (i.toInt = 5 ∧ w = 2) ∨ ((i.toInt = 3 ∨ i.toInt = 4) ∧ w = 1)) := by
  rcases rt_under (i := i) (by omega) with ⟨h1, h2⟩ | ⟨h1, h2⟩ | ⟨h1, h2⟩ | ⟨h1, h2⟩ | ⟨h1, h2⟩ | ⟨h1, h2⟩ <;> rw [h1, h2] <;> rw [h1] at hn <;> omega
theorem fm_I.bd {nb : Nat} {ad : Nat → Nat → Nat} {M : fm_M} (hI : fm_I nb ad M) {a k j : Nat} {lo up : Int} (h : fm_b a j = (lo, up)) : lo ≤ (M.1 a k j).toInt ∧ (M.1 a k j).toInt ≤ up := by
  have h2 := hI.1 a k j
  rw [h] at h2
  exact h2
theorem rt_ifx {c d : Prop} [Decidable c] [Decidable d] {x y : Int32} (h : c ↔ d) : (if c then x else y) = if d then x else y := by
  by_cases z : c
  · rw [if_pos z, if_pos (h.mp z)]
  · rw [if_neg z, if_neg (fun w => z (h.mpr w))]
theorem fm_wL_ar {M : fm_M} {q k i j : Nat} {x : Int64} : (fm_wL M q k i x).2.1 q k j = if j = i then x else M.2.1 q k j := by
  by_cases h : j = i
  · subst h
    rw [fm_wL_at, if_pos rfl]
  · rw [fm_wL_nj (fun z => h z.2.2), if_neg h]
theorem zi_tn {a b : Int32} (h : a.toInt = b.toInt) : a.toNatClampNeg = b.toNatClampNeg := by rw [Int32.toNatClampNeg, Int32.toNatClampNeg, h]
theorem zi_tns {k k1 : Int32} (h1 : k1.toInt = k.toInt + 1) (h0 : 0 ≤ k.toInt) : k1.toNatClampNeg = k.toNatClampNeg + 1 := by rw [Int32.toNatClampNeg, Int32.toNatClampNeg]; omega
theorem zi_ofn {k : Int32} (h0 : 0 ≤ k.toInt) : Int32.ofNat k.toNatClampNeg = k := by
  rw [fa_eq, Int32.toInt_ofNat_of_lt]
  · rw [Int32.toNatClampNeg]; omega
  · have := Int32.toInt_lt k; rw [Int32.toNatClampNeg]; omega
theorem rt_hst {f g : Nat → Int32} {p0 p2 k k1 : Int32} (h : ∀ j : Nat, f j = if p0.toInt ≤ j ∧ (j : Int) < k.toInt then p2 else g j) (h0 : p0.toInt ≤ k.toInt ∧ 0 ≤ k.toInt) (h1 : k1.toInt = k.toInt + 1) {j : Nat} : (if j = k.toNatClampNeg then p2 else f j) = if p0.toInt ≤ j ∧ (j : Int) < k1.toInt then p2 else g j := by
  have e : (k.toNatClampNeg : Int) = k.toInt := by rw [Int32.toNatClampNeg]; omega
  by_cases hj : j = k.toNatClampNeg
  · rw [if_pos hj, if_pos (by omega)]
  · rw [if_neg hj, h j]
    by_cases h2 : p0.toInt ≤ j ∧ (j : Int) < k.toInt
    · rw [if_pos h2, if_pos (by omega)]
    · rw [if_neg h2, if_neg (by omega)]
def rt_ab (x : Int) : Int := if x < 0 then -x else x
def rt_ap (a b : Int) : Int := if rt_ab (a % 8 - b % 8) ≤ rt_ab (a / 8 - b / 8) then rt_ab (a / 8 - b / 8) else rt_ab (a % 8 - b % 8)
def rt_fgc (f : Nat → Int32) (x : Int) : Int := if 0 ≤ x ∧ x < 240 then (f x.toNat).toInt else 0
def rt_fgm (a b c : Nat → Int32) (x : Int) (n : Nat) : Int := match n with
  | 0 => 0
  | k + 1 => if (a k).toInt ≤ x ∧ x < (b k).toInt then (c k).toInt else rt_fgm a b c x k
theorem rt_fgm_c {a b c a1 b1 c1 : Nat → Int32} {x : Int} {n : Nat} (h : ∀ j, j < n → a1 j = a j ∧ b1 j = b j ∧ c1 j = c j) : rt_fgm a1 b1 c1 x n = rt_fgm a b c x n := by
  induction n with
  | zero => rfl
  | succ n ih =>
    obtain ⟨h1, h2, h3⟩ := h n (Nat.lt_succ_self n)
    show (if (a1 n).toInt ≤ x ∧ x < (b1 n).toInt then (c1 n).toInt else rt_fgm a1 b1 c1 x n) = (if (a n).toInt ≤ x ∧ x < (b n).toInt then (c n).toInt else rt_fgm a b c x n)
    rw [h1, h2, h3, ih (fun j hj => h j (Nat.lt_succ_of_lt hj))]
theorem rt_fg_new {f f1 a b c a1 b1 c1 : Nat → Int32} {p0 p1 p2 n n1 : Int32} (hG : ∀ x : Int, rt_fgc f x = rt_fgm a b c x n.toNatClampNeg) (hf : ∀ j : Nat, f1 j = if p0.toInt ≤ j ∧ (j : Int) < p1.toInt then p2 else f j) (ha : ∀ j : Nat, a1 j = if j = n.toNatClampNeg then p0 else a j) (hb : ∀ j : Nat, b1 j = if j = n.toNatClampNeg then p1 else b j) (hc : ∀ j : Nat, c1 j = if j = n.toNatClampNeg then p2 else c j) (h0 : 0 ≤ p0.toInt) (h1 : p1.toInt ≤ 240) (hn : 0 ≤ n.toInt) (hn1 : n1.toInt = n.toInt + 1) : ∀ x : Int, rt_fgc f1 x = rt_fgm a1 b1 c1 x n1.toNatClampNeg := by
  intro x
  have e : n1.toNatClampNeg = n.toNatClampNeg + 1 := by rw [Int32.toNatClampNeg, Int32.toNatClampNeg]; omega
  rw [e]
  show _ = (if (a1 n.toNatClampNeg).toInt ≤ x ∧ x < (b1 n.toNatClampNeg).toInt then (c1 n.toNatClampNeg).toInt else rt_fgm a1 b1 c1 x n.toNatClampNeg)
  rw [ha n.toNatClampNeg, hb n.toNatClampNeg, hc n.toNatClampNeg, if_pos rfl, if_pos rfl, if_pos rfl, rt_fgm_c (a := a) (b := b) (c := c) (fun j hj => ⟨by rw [ha j, if_neg (by omega)], by rw [hb j, if_neg (by omega)], by rw [hc j, if_neg (by omega)]⟩), ← hG x]
  unfold rt_fgc
  by_cases hx : 0 ≤ x ∧ x < 240
  · rw [if_pos hx, if_pos hx, hf]
    have e2 : ((x.toNat : Nat) : Int) = x := Int.toNat_of_nonneg hx.1
    rw [e2]
    by_cases hy : p0.toInt ≤ x ∧ x < p1.toInt
    · rw [if_pos hy, if_pos hy]
    · rw [if_neg hy, if_neg hy]
  · rw [if_neg hx, if_neg hx, if_neg (by omega)]
def rt_fgM (M : fm_M) (x : Int) : Int := rt_fgm (M.1 106 0) (M.1 107 0) (M.1 108 0) x (M.1 60 0 9).toNatClampNeg
theorem rt_fg0 {M : fm_M} (h : ∀ j : Nat, M.1 3 0 j = 0) (h9 : M.1 60 0 9 = 0) (x : Int) : rt_fgc (M.1 3 0) x = rt_fgM M x := by
  unfold rt_fgc rt_fgM
  rw [h9, h]
  show _ = (0 : Int)
  split <;> rfl
theorem rt_fgm_y {a b c : Nat → Int32} {x : Int} {k k1 u v w : Int32} (h1 : k1.toInt = k.toInt + 1) (h0 : 0 ≤ k.toInt) (ea : u = a k.toNatClampNeg) (eb : v = b k.toNatClampNeg) (ec : w = c k.toNatClampNeg) (h : u.toInt ≤ x ∧ x < v.toInt) : w.toInt = rt_fgm a b c x k1.toNatClampNeg := by
  rw [zi_tns h1 h0]
  show _ = (if (a k.toNatClampNeg).toInt ≤ x ∧ x < (b k.toNatClampNeg).toInt then (c k.toNatClampNeg).toInt else rt_fgm a b c x k.toNatClampNeg)
  rw [← ea, ← eb, ← ec, if_pos h]
theorem rt_fgm_1 {a b c : Nat → Int32} {x z : Int} {k k1 u : Int32} (h1 : k1.toInt = k.toInt + 1) (h0 : 0 ≤ k.toInt) (hq : z = rt_fgm a b c x k.toNatClampNeg) (ea : u = a k.toNatClampNeg) (h : ¬ u.toInt ≤ x) : z = rt_fgm a b c x k1.toNatClampNeg := by
  rw [zi_tns h1 h0]
  show _ = (if (a k.toNatClampNeg).toInt ≤ x ∧ x < (b k.toNatClampNeg).toInt then (c k.toNatClampNeg).toInt else rt_fgm a b c x k.toNatClampNeg)
  rw [← ea, if_neg (fun g => h g.1), hq]
theorem rt_fgm_2 {a b c : Nat → Int32} {x z : Int} {k k1 u : Int32} (h1 : k1.toInt = k.toInt + 1) (h0 : 0 ≤ k.toInt) (hq : z = rt_fgm a b c x k.toNatClampNeg) (eb : u = b k.toNatClampNeg) (h : ¬ x < u.toInt) : z = rt_fgm a b c x k1.toNatClampNeg := by
  rw [zi_tns h1 h0]
  show _ = (if (a k.toNatClampNeg).toInt ≤ x ∧ x < (b k.toNatClampNeg).toInt then (c k.toNatClampNeg).toInt else rt_fgm a b c x k.toNatClampNeg)
  rw [← eb, if_neg (fun g => h g.2), hq]
def rt_clr (G : Int → Int) (a n : Int) : Prop := ∀ x : Int, a ≤ x → x < a + n → G x ≤ 8
def rt_bk (G : Int → Int) (ok : Prop) (st n h r : Int) : Prop := (∃ k : Int, 0 ≤ k ∧ k ≤ st ∧ ok ∧ rt_clr G h n ∧ rt_clr G (h + n + k) n ∧ (∀ q : Int, 0 ≤ q → q < k → ¬ rt_clr G (h + n + q) n) ∧ h + 2 * n + k ≤ 239 ∧ r = h + 2 * n + k) ∨ ((∀ k : Int, 0 ≤ k → k ≤ st → ok → rt_clr G h n → rt_clr G (h + n + k) n → (∀ q : Int, 0 ≤ q → q < k → ¬ rt_clr G (h + n + q) n) → ¬ h + 2 * n + k ≤ 239) ∧ r = -1)
theorem rt_bk_u {G : Int → Int} {ok : Prop} {st n h r s : Int} (a : rt_bk G ok st n h r) (b : rt_bk G ok st n h s) : r = s := by
  rcases a with ⟨k, k1, k2, k3, k4, k5, k6, k7, k8⟩ | ⟨a1, a2⟩ <;> rcases b with ⟨j, j1, j2, j3, j4, j5, j6, j7, j8⟩ | ⟨b1, b2⟩
  · rcases Int.lt_trichotomy k j with g | g | g
    · exact absurd k5 (j6 k k1 g)
    · rw [k8, j8, g]
    · exact absurd j5 (k6 j j1 g)
  · exact absurd k7 (b1 k k1 k2 k3 k4 k5 k6)
  · exact absurd j7 (a1 j j1 j2 j3 j4 j5 j6)
  · rw [a2, b2]
theorem rt_bk_no {G : Int → Int} {ok : Prop} {st n h : Int} (a : ¬ ok ∨ ¬ rt_clr G h n) : rt_bk G ok st n h (-1 : Int32).toInt := Or.inr ⟨fun k _ _ h3 h4 _ _ _ => a.elim (fun z => z h3) (fun z => z h4), rfl⟩
theorem rt_bk_none {G : Int → Int} {ok : Prop} {st n h : Int} (a : ∀ q : Int, 0 ≤ q → q ≤ st → ¬ rt_clr G (h + n + q) n) : rt_bk G ok st n h (-1 : Int32).toInt := Or.inr ⟨fun k h1 h2 _ _ h5 _ _ => a k h1 h2 h5, rfl⟩
theorem rt_bk_out {G : Int → Int} {ok : Prop} {st n h k : Int} (h0 : 0 ≤ k) (hc : rt_clr G (h + n + k) n) (hf : ∀ q : Int, 0 ≤ q → q < k → ¬ rt_clr G (h + n + q) n) (hl : 240 ≤ h + 2 * n + k) : rt_bk G ok st n h (-1 : Int32).toInt := by
  refine Or.inr ⟨fun j h1 h2 _ _ h5 h6 h7 => ?_, rfl⟩
  rcases Int.lt_trichotomy j k with g | g | g
  · exact hf j h1 g h5
  · omega
  · exact h6 k h0 g hc
theorem rt_bk_hit {G : Int → Int} {ok : Prop} {st n h k r : Int} (h0 : 0 ≤ k) (h1 : k ≤ st) (ho : ok) (hh : rt_clr G h n) (hc : rt_clr G (h + n + k) n) (hf : ∀ q : Int, 0 ≤ q → q < k → ¬ rt_clr G (h + n + q) n) (hl : h + 2 * n + k ≤ 239) (hr : r = h + 2 * n + k) : rt_bk G ok st n h r := Or.inl ⟨k, h0, h1, ho, hh, hc, hf, hl, hr⟩
theorem rt_bk_m0 {G : Int → Int} {ok : Prop} {st n h : Int} (hn : 0 ≤ n) (a : ¬ (h + n ≤ 239 ∧ rt_clr G h n)) : rt_bk G ok st n h (-1 : Int32).toInt := Or.inr ⟨fun k h1 _ _ h4 _ _ h7 => a ⟨by omega, h4⟩, rfl⟩
theorem rt_bk_m1 {G : Int → Int} {ok : Prop} {st n h : Int} (a : ∀ q : Int, 0 ≤ q → q ≤ st → ¬ (h + n + q + n ≤ 239 ∧ rt_clr G (h + n + q) n)) : rt_bk G ok st n h (-1 : Int32).toInt := Or.inr ⟨fun k h1 h2 _ _ h5 _ h7 => a k h1 h2 ⟨by omega, h5⟩, rfl⟩
def rt_ls (B : Int → Int → Prop) (r : Int) : Prop := (0 ≤ r ∧ r ≤ 239 ∧ (∃ v : Int, B r v ∧ ¬ v = -1) ∧ ∀ q : Int, r < q → q ≤ 239 → B q (-1)) ∨ (r = -1 ∧ ∀ q : Int, 0 ≤ q → q ≤ 239 → B q (-1))
theorem rt_ls_hit {B : Int → Int → Prop} {r v : Int} (h0 : 0 ≤ r) (h1 : r ≤ 239) (hv : B r v) (hn : ¬ v = -1) (hq : ∀ q : Int, r < q → q ≤ 239 → B q (-1)) : rt_ls B r := Or.inl ⟨h0, h1, ⟨v, hv, hn⟩, hq⟩
theorem rt_ls_no {B : Int → Int → Prop} {r : Int} (hr : r = -1) (hq : ∀ q : Int, 0 ≤ q → q ≤ 239 → B q (-1)) : rt_ls B r := Or.inr ⟨hr, hq⟩
theorem rt_ls_u {B : Int → Int → Prop} (hB : ∀ q v w : Int, B q v → B q w → v = w) {r s : Int} (a : rt_ls B r) (b : rt_ls B s) : r = s := by
  rcases a with ⟨a0, a1, ⟨v, a2, a3⟩, a4⟩ | ⟨a0, a1⟩ <;> rcases b with ⟨b0, b1, ⟨w, b2, b3⟩, b4⟩ | ⟨b0, b1⟩
  · rcases Int.lt_trichotomy r s with g | g | g
    · exact absurd (hB _ _ _ b2 (a4 s g b1)) b3
    · exact g
    · exact absurd (hB _ _ _ a2 (b4 r g a1)) a3
  · exact absurd (hB _ _ _ a2 (b1 r a0 a1)) a3
  · exact absurd (hB _ _ _ b2 (a1 s b0 b1)) b3
  · rw [a0, b0]
theorem fm_wI_2 {M : fm_M} {q k i j n : Nat} {x : Int32} : (fm_wI M q k i x).1 q j n = if j = k ∧ n = i then x else M.1 q j n := by
  by_cases h : j = k ∧ n = i
  · rw [if_pos h, h.1, h.2, fm_wI_at]
  · rw [if_neg h, fm_wI_nj (fun z => h ⟨z.2.1, z.2.2⟩)]
theorem fm_wA_2 {M : fm_M} {q k j n : Nat} {f : Nat → Int32} : (fm_wA M q k f).1 q j n = if j = k then f n else M.1 q j n := by
  by_cases h : j = k
  · rw [if_pos h, h, fm_wA_at]
  · rw [if_neg h, fm_wA_ne (fun z => h z.2)]
def rt_ct (s v : Int32) : Int32 := if s.toInt = 0 then v.toInt8.toInt32 else if s.toInt = 1 then v.toInt16.toInt32 else v
theorem rt_z2 {f g : Nat → Nat → Int32} {ks : Nat} {k k1 : Int32} (h : ∀ j n : Nat, f j n = if j = ks ∧ (n : Int) < k.toInt then 0 else g j n) (h0 : 0 ≤ k.toInt) (h1 : k1.toInt = k.toInt + 1) {j n : Nat} : (if j = ks ∧ n = k.toNatClampNeg then 0 else f j n) = if j = ks ∧ (n : Int) < k1.toInt then 0 else g j n := by
  have e : (k.toNatClampNeg : Int) = k.toInt := by rw [Int32.toNatClampNeg]; omega
  by_cases hj : j = ks ∧ n = k.toNatClampNeg
  · rw [if_pos hj, if_pos (by omega)]
  · rw [if_neg hj, h j n]
    by_cases h2 : j = ks ∧ (n : Int) < k.toInt
    · rw [if_pos h2, if_pos (by omega)]
    · rw [if_neg h2, if_neg (by omega)]
theorem rt_z1 {f g : Nat → Int32} {lo : Int} {k k1 : Int32} (h : ∀ n : Nat, f n = if lo ≤ n ∧ (n : Int) < k.toInt then 0 else g n) (h0 : 0 ≤ k.toInt ∧ lo ≤ k.toInt) (h1 : k1.toInt = k.toInt + 1) {n : Nat} : (if n = k.toNatClampNeg then 0 else f n) = if lo ≤ n ∧ (n : Int) < k1.toInt then 0 else g n := by
  have e : (k.toNatClampNeg : Int) = k.toInt := by rw [Int32.toNatClampNeg]; omega
  by_cases hj : n = k.toNatClampNeg
  · rw [if_pos hj, if_pos (by omega)]
  · rw [if_neg hj, h n]
    by_cases h2 : lo ≤ n ∧ (n : Int) < k.toInt
    · rw [if_pos h2, if_pos (by omega)]
    · rw [if_neg h2, if_neg (by omega)]
theorem rt_cp1 {f g : Nat → Int32} {D k k1 : Int} {S y : Nat} {x : Int32} (h : ∀ n : Nat, f n = if D ≤ n ∧ (n : Int) < D + k then g (S + (n - D.toNat)) else g n) (hx : x = g (S + k.toNat)) (hy : (y : Int) = D + k) (hk : 0 ≤ k ∧ 0 ≤ D) (h1 : k1 = k + 1) {n : Nat} : (if n = y then x else f n) = if D ≤ n ∧ (n : Int) < D + k1 then g (S + (n - D.toNat)) else g n := by
  by_cases hj : n = y
  · rw [if_pos hj, if_pos (by omega), hx, show n - D.toNat = k.toNat by omega]
  · rw [if_neg hj, h n]
    by_cases h2 : D ≤ n ∧ (n : Int) < D + k
    · rw [if_pos h2, if_pos (by omega)]
    · rw [if_neg h2, if_neg (by omega)]
theorem zl_2k {b : Int64} (h : 0 ≤ b.toInt ∧ b.toInt ≤ 20) : (2 * b).toInt = 2 * b.toInt := by
  have e : (2 : Int64).toInt = 2 := rfl
  rw [zl_mul (by rw [e]; omega), e]
def rt_itc (M : fm_M) (s : Nat) (x : Int) : Int := if 0 ≤ x ∧ x < 40 then (M.1 47 s x.toNat).toInt else 0
def rt_itm (M : fm_M) (s : Nat) (x : Int) : Int := if 0 ≤ x ∧ x < 40 then (M.1 177 0 (40 * s + x.toNat)).toInt else 0
def rt_fx (it : Int → Int) (b h f c : Int) (n : Nat) : Int × Int := match n with
  | 0 => (c, 0)
  | k + 1 => if (b ≤ it (f + 2 * k) ∧ it (f + 2 * k) ≤ h ∧ 0 ≤ it (f + 2 * k + 1) ∧ it (f + 2 * k + 1) ≤ 63) ∧ (rt_fx it b h f c k).1 < 40 then ((rt_fx it b h f c k).1 + 1, (rt_fx it b h f c k).2 + 1) else rt_fx it b h f c k
abbrev rt_fxs (it : Int → Int) (T b h f c n r u : Int) : Prop := ∃ k : Nat, (k : Int) ≤ n ∧ (∀ q : Nat, q < k → 0 ≤ f + 2 * q ∧ f + 2 * q + 2 ≤ T) ∧ u = (rt_fx it b h f c k).1 ∧ (((k : Int) = n ∧ r = (rt_fx it b h f c k).2) ∨ ((k : Int) < n ∧ ¬ (0 ≤ f + 2 * k ∧ f + 2 * k + 2 ≤ T) ∧ r = -12))
theorem rt_fxs_u {it : Int → Int} {T b h f c n r u r1 u1 : Int} (x : rt_fxs it T b h f c n r u) (y : rt_fxs it T b h f c n r1 u1) : r = r1 ∧ u = u1 := by
  obtain ⟨k, k1, k2, k3, k4⟩ := x
  obtain ⟨j, j1, j2, j3, j4⟩ := y
  have e : k = j := by
    rcases Nat.lt_trichotomy k j with g | g | g
    · have g1 := j2 k g
      omega
    · exact g
    · have g1 := k2 j g
      omega
  subst e
  refine ⟨?_, by rw [k3, j3]⟩
  rcases k4 with ⟨a1, a2⟩ | ⟨a1, a2, a3⟩ <;> rcases j4 with ⟨b1, b2⟩ | ⟨b1, b2, b3⟩
  · rw [a2, b2]
  · omega
  · omega
  · rw [a3, b3]
theorem rt_fx_y {it : Int → Int} {b h f c u w a e : Int} {k k1 : Int32} (h1 : k1.toInt = k.toInt + 1) (h0 : 0 ≤ k.toInt) (hu : u = (rt_fx it b h f c k.toNatClampNeg).1) (hw : w = (rt_fx it b h f c k.toNatClampNeg).2) (ea : a = it (f + 2 * k.toInt)) (ee : e = it (f + 2 * k.toInt + 1)) (hc : (b ≤ a ∧ a ≤ h ∧ 0 ≤ e ∧ e ≤ 63) ∧ u < 40) : u + 1 = (rt_fx it b h f c k1.toNatClampNeg).1 ∧ w + 1 = (rt_fx it b h f c k1.toNatClampNeg).2 := by
  have z : (k.toNatClampNeg : Int) = k.toInt := by rw [Int32.toNatClampNeg]; omega
  rw [zi_tns h1 h0, rt_fx, z, ← ea, ← ee, ← hu, ← hw, if_pos hc]
  exact ⟨rfl, rfl⟩
theorem rt_fx_n {it : Int → Int} {b h f c u w a e : Int} {k k1 : Int32} (h1 : k1.toInt = k.toInt + 1) (h0 : 0 ≤ k.toInt) (hu : u = (rt_fx it b h f c k.toNatClampNeg).1) (hw : w = (rt_fx it b h f c k.toNatClampNeg).2) (ea : a = it (f + 2 * k.toInt)) (ee : e = it (f + 2 * k.toInt + 1)) (hc : ¬ ((b ≤ a ∧ a ≤ h ∧ 0 ≤ e ∧ e ≤ 63) ∧ u < 40)) : u = (rt_fx it b h f c k1.toNatClampNeg).1 ∧ w = (rt_fx it b h f c k1.toNatClampNeg).2 := by
  have z : (k.toNatClampNeg : Int) = k.toInt := by rw [Int32.toNatClampNeg]; omega
  rw [zi_tns h1 h0, rt_fx, z, ← ea, ← ee, ← hu, if_neg hc]
  exact ⟨hu, hw⟩
theorem rt_itc_at {M : fm_M} {s : Nat} {x : Int} {v : Int32} {i : Nat} (h : 0 ≤ x ∧ x < 40) (hi : i = x.toNat) (hv : v = M.1 47 s i) : v.toInt = rt_itc M s x := by
  unfold rt_itc
  rw [if_pos h, hv, hi]
theorem rt_itm_at {M : fm_M} {s : Nat} {x : Int} {v : Int32} {i : Nat} (h : 0 ≤ x ∧ x < 40) (hi : i = 40 * s + x.toNat) (hv : v = M.1 177 0 i) : v.toInt = rt_itm M s x := by
  unfold rt_itm
  rw [if_pos h, hv, hi]
