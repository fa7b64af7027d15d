theorem rt_ifl {α : Type} {c d : Prop} [Decidable c] [Decidable d] {x y : α} (h : c ↔ d) : (if c then x else y) = if d then x else y := by
  by_cases z : c
  · rw [if_pos z, if_pos (h.mp z)]
  · rw [if_neg z, if_neg (fun w => z (h.mpr w))]
/-- the stack of the class: the last put first -/
def rt_stk (A : Nat → Int32) (n : Nat) : List Int32 := match n with
  | 0 => []
  | n + 1 => A n :: rt_stk A n
theorem rt_stk_e {A B : Nat → Int32} {n : Nat} (h : ∀ i : Nat, i < n → A i = B i) : rt_stk A n = rt_stk B n := by
  induction n with
  | zero => rfl
  | succ n ih =>
    show A n :: rt_stk A n = B n :: rt_stk B n
    rw [h n (Nat.lt_succ_self n), ih (fun i hi => h i (Nat.lt_succ_of_lt hi))]
theorem rt_stk_l {A : Nat → Int32} {n : Nat} : (rt_stk A n).length = n := by
  induction n with
  | zero => rfl
  | succ n ih =>
    show (rt_stk A n).length + 1 = n + 1
    rw [ih]
theorem rt_stk_s {A : Nat → Int32} {x y : Int32} (h : y.toInt = x.toInt + 1) (h0 : 0 ≤ x.toInt) : rt_stk A y.toNatClampNeg = A x.toNatClampNeg :: rt_stk A x.toNatClampNeg := by
  rw [zi_tns h h0]
  rfl
/-- one more is put -/
theorem rt_stk_p {A B : Nat → Int32} {x y v : Int32} (h : y.toInt = x.toInt + 1) (h0 : 0 ≤ x.toInt) (e : ∀ j : Nat, B j = if j = x.toNatClampNeg then v else A j) : rt_stk B y.toNatClampNeg = v :: rt_stk A x.toNatClampNeg := by
  rw [rt_stk_s h h0, e, if_pos rfl]
  rw [rt_stk_e (A := B) (B := A) (fun i hi => by rw [e, if_neg (by omega)])]
theorem rt_mc_p {A : Nat → Int32} {E : Nat → Int32} {c v x : Int32} (hc : -6 ≤ c.toInt) (hv : v = if 0 ≤ c.toInt then c else E (-1 - c.toInt).toNat) (h0 : 0 ≤ x.toInt) : rt_mc E c (rt_stk A x.toNatClampNeg) = if x.toInt < 64 then v :: rt_stk A x.toNatClampNeg else rt_stk A x.toNatClampNeg := by
  unfold rt_mc
  rw [if_pos hc, rt_stk_l, ← hv]
  exact rt_ifl ⟨fun z => by rw [Int32.toNatClampNeg] at z; omega, fun z => by rw [Int32.toNatClampNeg]; omega⟩
theorem rt_mc_u {A B : Nat → Int32} {E : Nat → Int32} {c v x y : Int32} (hc : c = -13 ∨ c = -19) (hn : ¬ -6 ≤ c.toInt) (h : x.toInt = y.toInt + 1) (h0 : 0 ≤ y.toInt) (hv : v = rt_un c (A y.toNatClampNeg)) (e : ∀ j : Nat, B j = if j = y.toNatClampNeg then v else A j) : rt_stk B x.toNatClampNeg = rt_mc E c (rt_stk A x.toNatClampNeg) := by
  rw [rt_stk_p h h0 e, rt_stk_s h h0]
  unfold rt_mc
  rw [if_neg hn, if_pos hc, hv]
theorem rt_mc_0 {A : Nat → Int32} {E : Nat → Int32} {c x : Int32} (hc : c = -13 ∨ c = -19) (hn : ¬ -6 ≤ c.toInt) (h : x.toInt ≤ 0) : rt_stk A x.toNatClampNeg = rt_mc E c (rt_stk A x.toNatClampNeg) := by
  rw [show x.toNatClampNeg = 0 by rw [Int32.toNatClampNeg]; omega]
  unfold rt_mc
  rw [if_neg hn, if_pos hc]
  rfl
theorem rt_mc_f {A : Nat → Int32} {E : Nat → Int32} {c x : Int32} (hc : ¬ (c = -13 ∨ c = -19)) (hn : ¬ -6 ≤ c.toInt) (h : x.toInt < 2) : rt_stk A x.toNatClampNeg = rt_mc E c (rt_stk A x.toNatClampNeg) := by
  unfold rt_mc
  rw [if_neg hn, if_neg hc]
  rcases (show x.toNatClampNeg = 0 ∨ x.toNatClampNeg = 1 by rw [Int32.toNatClampNeg]; omega) with e | e
  · rw [e]
    rfl
  · rw [e]
    rfl
theorem rt_mc_j {A B : Nat → Int32} {E : Nat → Int32} {c v x y z : Int32} (hc : ¬ (c = -13 ∨ c = -19)) (hn : ¬ -6 ≤ c.toInt) (h : x.toInt = y.toInt + 1) (g : y.toInt = z.toInt + 1) (h0 : 0 ≤ z.toInt) (hv : v = rt_jn c (A z.toNatClampNeg) (A y.toNatClampNeg)) (e : ∀ j : Nat, B j = if j = z.toNatClampNeg then v else A j) : rt_stk B y.toNatClampNeg = rt_mc E c (rt_stk A x.toNatClampNeg) := by
  rw [rt_stk_p g h0 e, rt_stk_s h (by omega), rt_stk_s g h0]
  unfold rt_mc
  rw [if_neg hn, if_neg hc, hv]
/-- a stretch of steps -/
def rt_seg (A : Nat → Int32) (p n : Nat) : List Int32 := match n with
  | 0 => []
  | n + 1 => rt_seg A p n ++ [A (p + n)]
theorem rt_run_1 (E : Nat → Int32) (d : List Int32) (c : Int32) (st : List Int32) : rt_run E (d ++ [c]) st = rt_mc E c (rt_run E d st) := by
  rw [rt_run_a]
  rfl
theorem rt_jn_o1 {a b : Int32} (h : ¬ a.toInt = 0 ∨ ¬ b.toInt = 0) : (1 : Int32) = rt_jn (-11) a b := by
  unfold rt_jn rt_tru
  rw [if_pos rfl, decide_eq_true (show ¬ a = 0 ∨ ¬ b = 0 from h.imp (fun z e => z (by rw [e]; rfl)) (fun z e => z (by rw [e]; rfl)))]
  rfl
theorem rt_jn_o0 {a b : Int32} (h : a.toInt = 0 ∧ b.toInt = 0) : (0 : Int32) = rt_jn (-11) a b := by
  have e1 : a = 0 := (fa_eq _ _).mpr h.1
  have e2 : b = 0 := (fa_eq _ _).mpr h.2
  rw [e1, e2]
  rfl
theorem rt_jn_a1 {a b : Int32} (h : ¬ a.toInt = 0 ∧ ¬ b.toInt = 0) : (1 : Int32) = rt_jn (-12) a b := by
  unfold rt_jn rt_tru
  rw [if_neg (by decide), if_pos rfl, decide_eq_true (show ¬ a = 0 ∧ ¬ b = 0 from ⟨fun e => h.1 (by rw [e]; rfl), fun e => h.2 (by rw [e]; rfl)⟩)]
  rfl
theorem rt_jn_a0 {a b : Int32} (h : a.toInt = 0 ∨ b.toInt = 0) : (0 : Int32) = rt_jn (-12) a b := by
  unfold rt_jn rt_tru
  rw [if_neg (by decide), if_pos rfl, decide_eq_false (show ¬ (¬ a = 0 ∧ ¬ b = 0) from fun z => h.elim (fun e => z.1 ((fa_eq _ _).mpr e)) (fun e => z.2 ((fa_eq _ _).mpr e)))]
  rfl
theorem rt_jn_l1 {a b : Int32} (h : a.toInt < b.toInt) : (1 : Int32) = rt_jn (-14) a b := by
  unfold rt_jn rt_tru
  rw [if_neg (by decide), if_neg (by decide), if_pos rfl, decide_eq_true h]
  rfl
theorem rt_jn_l0 {a b : Int32} (h : ¬ a.toInt < b.toInt) : (0 : Int32) = rt_jn (-14) a b := by
  unfold rt_jn rt_tru
  rw [if_neg (by decide), if_neg (by decide), if_pos rfl, decide_eq_false h]
  rfl
theorem rt_jn_e1 {a b : Int32} (h : a.toInt = b.toInt) : (1 : Int32) = rt_jn (-15) a b := by
  unfold rt_jn rt_tru
  rw [if_neg (by decide), if_neg (by decide), if_neg (by decide), if_pos rfl, decide_eq_true ((fa_eq a b).mpr h)]
  rfl
theorem rt_jn_e0 {a b : Int32} (h : ¬ a.toInt = b.toInt) : (0 : Int32) = rt_jn (-15) a b := by
  unfold rt_jn rt_tru
  rw [if_neg (by decide), if_neg (by decide), if_neg (by decide), if_pos rfl, decide_eq_false (fun e => h ((fa_eq a b).mp e))]
  rfl
theorem rt_jn_p {a b : Int32} : a + b = rt_jn (-16) a b := by
  unfold rt_jn
  rw [if_neg (by decide), if_neg (by decide), if_neg (by decide), if_neg (by decide), if_pos rfl]
theorem rt_jn_s {a b : Int32} : a - b = rt_jn (-17) a b := by
  unfold rt_jn
  rw [if_neg (by decide), if_neg (by decide), if_neg (by decide), if_neg (by decide), if_neg (by decide), if_pos rfl]
theorem rt_jn_m {c a b : Int32} (h : c.toInt < -17 ∨ -11 < c.toInt ∨ c.toInt = -13) : a * b = rt_jn c a b := by
  have g : ∀ k : Int32, k.toInt = -11 ∨ k.toInt = -12 ∨ k.toInt = -14 ∨ k.toInt = -15 ∨ k.toInt = -16 ∨ k.toInt = -17 → ¬ c = k := by
    intro k hk e
    rw [e] at h
    omega
  unfold rt_jn
  rw [if_neg (g (-11) (by decide)), if_neg (g (-12) (by decide)), if_neg (g (-14) (by decide)), if_neg (g (-15) (by decide)), if_neg (g (-16) (by decide)), if_neg (g (-17) (by decide))]
theorem rt_un_n {a : Int32} : -a = rt_un (-19) a := by
  unfold rt_un
  rw [if_pos rfl]
theorem rt_un_1 {a : Int32} (h : a.toInt = 0) : (1 : Int32) = rt_un (-13) a := by
  unfold rt_un rt_tru
  rw [if_neg (by decide), decide_eq_true ((fa_eq a 0).mpr h)]
  rfl
theorem rt_un_0 {a : Int32} (h : ¬ a.toInt = 0) : (0 : Int32) = rt_un (-13) a := by
  unfold rt_un rt_tru
  rw [if_neg (by decide), decide_eq_false (fun e => h (by rw [e]; rfl))]
  rfl
theorem rt_stk_1 {A : Nat → Int32} {n : Nat} {v : Int32} (h : rt_stk A n = [v]) : n = 1 ∧ A 0 = v := by
  have e : n = 1 := by
    have l := congrArg List.length h
    rw [rt_stk_l] at l
    exact l
  refine ⟨e, ?_⟩
  rw [e] at h
  exact (List.cons.inj h).1
/-- the steps of a text's part -/
def rt_part (M : fm_M) (kt : Nat) (p : Int32) : List Int32 := if p.toInt = 0 then rt_seg (M.1 49 kt) 0 (M.1 48 kt 2).toNatClampNeg else rt_seg (M.1 49 kt) (M.1 48 kt 2).toNatClampNeg ((M.1 48 kt 1).toNatClampNeg - (M.1 48 kt 2).toNatClampNeg)
theorem rt_val_s {A : Nat → Int32} {E E' : Nat → Int32} {st st' : List Int32} {x f y c : Int32} (h : st = rt_run E (rt_seg A f.toNatClampNeg (x.toInt - f.toInt).toNat) []) (h' : st' = rt_mc E' c st) (eE : E' = E) (hc : c = A x.toNatClampNeg) (hx : f.toInt ≤ x.toInt) (h0 : 0 ≤ f.toInt) (hy : y.toInt = x.toInt + 1) : st' = rt_run E (rt_seg A f.toNatClampNeg (y.toInt - f.toInt).toNat) [] := by
  have e : (y.toInt - f.toInt).toNat = (x.toInt - f.toInt).toNat + 1 := by omega
  have e2 : f.toNatClampNeg + (x.toInt - f.toInt).toNat = x.toNatClampNeg := by rw [Int32.toNatClampNeg, Int32.toNatClampNeg]; omega
  rw [e]
  show st' = rt_run E (rt_seg A f.toNatClampNeg (x.toInt - f.toInt).toNat ++ [A (f.toNatClampNeg + (x.toInt - f.toInt).toNat)]) []
  rw [rt_run_1, ← h, h', eE, e2, hc]
theorem rt_val_e {M : fm_M} {kt : Nat} {p f g x : Int32} {E : Nat → Int32} {st : List Int32} (h : st = rt_run E (rt_seg (M.1 49 kt) f.toNatClampNeg (x.toInt - f.toInt).toNat) []) (h4 : (p.toInt = 0 ∧ f.toInt = 0) ∨ (¬ p.toInt = 0 ∧ f = M.1 48 kt 2)) (h5 : (p.toInt = 0 ∧ g = M.1 48 kt 2) ∨ (¬ p.toInt = 0 ∧ g = M.1 48 kt 1)) (hg : g.toInt ≤ x.toInt) (hx : x.toInt ≤ g.toInt ∨ x.toInt = f.toInt) (h0 : 0 ≤ f.toInt) (h1 : 0 ≤ g.toInt) : st = rt_run E (rt_part M kt p) [] := by
  rw [h]
  unfold rt_part
  by_cases z : p.toInt = 0
  · have a : f.toInt = 0 := by rcases h4 with h4 | h4; exact h4.2; exact absurd z h4.1
    have b : g = M.1 48 kt 2 := by rcases h5 with h5 | h5; exact h5.2; exact absurd z h5.1
    rw [if_pos z, ← b, show f.toNatClampNeg = 0 by rw [Int32.toNatClampNeg]; omega, show (x.toInt - f.toInt).toNat = g.toNatClampNeg by rw [Int32.toNatClampNeg]; omega]
  · have a : f = M.1 48 kt 2 := by rcases h4 with h4 | h4; exact absurd h4.1 z; exact h4.2
    have b : g = M.1 48 kt 1 := by rcases h5 with h5 | h5; exact absurd h5.1 z; exact h5.2
    rw [if_neg z, ← a, ← b, show (x.toInt - f.toInt).toNat = g.toNatClampNeg - f.toNatClampNeg by rw [Int32.toNatClampNeg, Int32.toNatClampNeg]; omega]
/-- the machine asks no names but six -/
theorem rt_mc_E {E G : Nat → Int32} (h : ∀ i : Nat, i < 6 → E i = G i) (c : Int32) (st : List Int32) : rt_mc E c st = rt_mc G c st := by
  unfold rt_mc
  by_cases z : -6 ≤ c.toInt
  · rw [if_pos z, if_pos z]
    by_cases z2 : 0 ≤ c.toInt
    · rw [if_pos z2, if_pos z2]
    · rw [if_neg z2, if_neg z2, h _ (by omega)]
  · rw [if_neg z, if_neg z]
theorem rt_run_E {E G : Nat → Int32} (h : ∀ i : Nat, i < 6 → E i = G i) (d : List Int32) (st : List Int32) : rt_run E d st = rt_run G d st := by
  unfold rt_run
  rw [show (fun t c => rt_mc E c t) = (fun t c => rt_mc G c t) from funext fun t => funext fun c => rt_mc_E h c t]
def rt_n6 (a b c d e f : Int32) (i : Nat) : Int32 := if i = 0 then a else if i = 1 then b else if i = 2 then c else if i = 3 then d else if i = 4 then e else f
theorem rt_part_s {es : List Nat} {M u : fm_M} (s : fm_same es M u) (h : ∀ c ∈ ([48001, 48002, 49000] : List Nat), c ∉ es) (kt : Nat) (p : Int32) : rt_part u kt p = rt_part M kt p := by
  have e : u.1 49 kt = M.1 49 kt := funext fun i => (s 49 kt i (by rw [cd_49]; exact h _ (by decide))).1
  unfold rt_part
  rw [e, (s 48 kt 1 (h _ (by decide))).1, (s 48 kt 2 (h _ (by decide))).1]
def rt_tb (M : fm_M) (x : Int) : Int := (M.1 28 0 x.toNat).toInt
def rt_tT (M : fm_M) (k : Nat) : Int := (M.1 33 0 k).toInt
def rt_tS (M : fm_M) (k : Nat) : Int := (M.1 34 0 k).toInt
def rt_tV (M : fm_M) (k : Nat) : Int32 := M.1 35 0 k
theorem rt_seg_l {A : Nat → Int32} {p n : Nat} : (rt_seg A p n).length = n := by
  induction n with
  | zero => rfl
  | succ n ih =>
    show (rt_seg A p n ++ [A (p + n)]).length = n + 1
    rw [List.length_append, ih]
    rfl
theorem rt_seg_e {A B : Nat → Int32} {p n : Nat} (h : ∀ i : Nat, i < n → A (p + i) = B (p + i)) : rt_seg A p n = rt_seg B p n := by
  induction n with
  | zero => rfl
  | succ n ih =>
    show rt_seg A p n ++ [A (p + n)] = rt_seg B p n ++ [B (p + n)]
    rw [ih (fun i hi => h i (Nat.lt_succ_of_lt hi)), h n (Nat.lt_succ_self n)]
/-- the steps made so far -/
def rt_kl (M : fm_M) : List Int32 := rt_seg (M.1 37 0) 0 (M.1 36 0 1).toNatClampNeg
/-- where the class's reader is -/
def rt_sq (M : fm_M) : rt_Z := ((M.1 32 0 6).toNatClampNeg, (M.1 32 0 7).toInt, rt_kl M)
def rt_RD (d : Int) (c : Nat) (M : fm_M) : Prop := rt_tT M c = 0 ∧ c ≤ 160 ∧ (M.1 32 0 6).toInt ≤ c ∧ 0 ≤ (M.1 32 0 6).toInt ∧ 0 ≤ (M.1 36 0 1).toInt ∧ (M.1 36 0 1).toInt + d ≤ (M.1 32 0 6).toInt
theorem rt_RD_le {d e : Int} {c : Nat} {M : fm_M} (h : rt_RD d c M) (g : e ≤ d) : rt_RD e c M := by
  obtain ⟨r1, r2, r3, r4, r5, r6⟩ := h
  exact ⟨r1, r2, r3, r4, r5, by omega⟩
theorem rt_cl_same {es : List Nat} {M u : fm_M} (s : fm_same es M u) (h : ∀ c ∈ ([36001, 37000] : List Nat), c ∉ es) : rt_kl u = rt_kl M := by
  unfold rt_kl
  rw [(s 36 0 1 (h _ (by decide))).1]
  exact rt_seg_e (fun i _ => (s 37 0 (0 + i) (by rw [cd_37]; exact h _ (by decide))).1)
theorem rt_tTS {es : List Nat} {M u : fm_M} (s : fm_same es M u) (h : ∀ c ∈ ([33000, 34000, 35000] : List Nat), c ∉ es) : rt_tT u = rt_tT M ∧ rt_tS u = rt_tS M ∧ rt_tV u = rt_tV M := by
  refine ⟨funext fun k => ?_, funext fun k => ?_, funext fun k => ?_⟩
  · unfold rt_tT
    rw [(s 33 0 k (by rw [cd_33]; exact h _ (by decide))).1]
  · unfold rt_tS
    rw [(s 34 0 k (by rw [cd_34]; exact h _ (by decide))).1]
  · unfold rt_tV
    rw [(s 35 0 k (by rw [cd_35]; exact h _ (by decide))).1]
theorem rt_cl_l {M : fm_M} : (rt_sq M).2.2.length = (M.1 36 0 1).toNatClampNeg := rt_seg_l
theorem rt_RD_to {d : Int} {c : Nat} {es : List Nat} {M u : fm_M} {q : rt_Z} (hR : rt_RD d c M) (s : fm_same es M u) (h : ∀ c ∈ ([33000] : List Nat), c ∉ es) (h0 : 0 ≤ (u.1 32 0 6).toInt) (h1 : 0 ≤ (u.1 36 0 1).toInt) (hq : rt_sq u = q) {e : Int} (hr : q.1 ≤ c) (hz : (q.2.2.length : Int) + e ≤ q.1) : rt_RD e c u := by
  obtain ⟨r1, r2, r3, r4, r5, r6⟩ := hR
  have e1 : (u.1 32 0 6).toNatClampNeg ≤ c := by rw [← hq] at hr; exact hr
  have e2 : ((u.1 36 0 1).toNatClampNeg : Int) + e ≤ (u.1 32 0 6).toNatClampNeg := by rw [← hq, rt_cl_l] at hz; exact hz
  rw [Int32.toNatClampNeg] at e1
  rw [Int32.toNatClampNeg, Int32.toNatClampNeg] at e2
  refine ⟨?_, r2, by omega, h0, h1, by omega⟩
  unfold rt_tT
  rw [(s 33 0 c (by rw [cd_33]; exact h _ (by decide))).1]
  exact r1
theorem rt_RD_at {d : Int} {c : Nat} {M : fm_M} (hR : rt_RD d c M) : (rt_sq M).1 ≤ c ∧ ((rt_sq M).2.2.length : Int) + d ≤ (rt_sq M).1 := by
  obtain ⟨r1, r2, r3, r4, r5, r6⟩ := hR
  rw [rt_cl_l]
  show (M.1 32 0 6).toNatClampNeg ≤ c ∧ ((M.1 36 0 1).toNatClampNeg : Int) + d ≤ ((M.1 32 0 6).toNatClampNeg : Nat)
  rw [Int32.toNatClampNeg, Int32.toNatClampNeg]
  exact ⟨by omega, by omega⟩
theorem rt_RD_gr {d : Int} {c : Nat} {es : List Nat} {M u : fm_M} (hR : rt_RD d c M) (g : rt_gr c (rt_sq M) (rt_sq u)) (s : fm_same es M u) (h : ∀ c ∈ ([33000] : List Nat), c ∉ es) (h0 : 0 ≤ (u.1 32 0 6).toInt) (h1 : 0 ≤ (u.1 36 0 1).toInt) : rt_RD d c u := by
  obtain ⟨a1, a2⟩ := rt_RD_at hR
  obtain ⟨g1, g2, g3⟩ := g
  exact rt_RD_to hR s h h0 h1 rfl g2 (by omega)
theorem rt_RD_ps {d : Int} {c : Nat} {es : List Nat} {M u : fm_M} {nt : Nat} {o : Int} (hR : rt_RD d c M) (hp : rt_PS (rt_tT M) (rt_tS M) (rt_tV M) nt o (rt_sq M) (rt_sq u)) (s : fm_same es M u) (h : ∀ c ∈ ([33000] : List Nat), c ∉ es) (h0 : 0 ≤ (u.1 32 0 6).toInt) (h1 : 0 ≤ (u.1 36 0 1).toInt) : rt_RD d c u := rt_RD_gr hR (rt_PS_r hp hR.1 (rt_RD_at hR).1) s h h0 h1
theorem rt_RD_need {d : Int} {c : Nat} {es : List Nat} {M u : fm_M} {k : Int} (hR : rt_RD d c M) (hp : rt_sq u = rt_need (rt_tT M) (rt_tS M) k (rt_sq M)) (s : fm_same es M u) (h : ∀ c ∈ ([33000] : List Nat), c ∉ es) (h0 : 0 ≤ (u.1 32 0 6).toInt) (h1 : 0 ≤ (u.1 36 0 1).toInt) : rt_RD d c u := rt_RD_gr hR (by rw [hp]; exact rt_gr_n hR.1 (rt_RD_at hR).1) s h h0 h1
/-- a token is taken: one step more may be made -/
theorem rt_RD_adv {d : Int} {c : Nat} {es : List Nat} {M u : fm_M} (hR : rt_RD d c M) (hp : rt_sq u = rt_adv (rt_tT M) (rt_sq M)) (hz : ¬ rt_tT M (rt_sq M).1 = 0) (s : fm_same es M u) (h : ∀ c ∈ ([33000] : List Nat), c ∉ es) (h0 : 0 ≤ (u.1 32 0 6).toInt) (h1 : 0 ≤ (u.1 36 0 1).toInt) : rt_RD (d + 1) c u := by
  obtain ⟨a1, a2⟩ := rt_RD_at hR
  have g := rt_gr_a (T := rt_tT M) (s := rt_sq M) hR.1 a1
  rw [rt_adv_1 hz] at hp g
  refine rt_RD_to hR s h h0 h1 hp g.2.1 ?_
  show ((rt_sq M).2.2.length : Int) + (d + 1) ≤ (((rt_sq M).1 + 1 : Nat) : Int)
  omega
theorem rt_RD_em {d : Int} {c : Nat} {es : List Nat} {M u : fm_M} {x : Int32} (hR : rt_RD d c M) (hp : rt_sq u = rt_em x (rt_sq M)) (s : fm_same es M u) (h : ∀ c ∈ ([33000] : List Nat), c ∉ es) (h0 : 0 ≤ (u.1 32 0 6).toInt) (h1 : 0 ≤ (u.1 36 0 1).toInt) : rt_RD (d - 1) c u := by
  obtain ⟨a1, a2⟩ := rt_RD_at hR
  refine rt_RD_to hR s h h0 h1 hp a1 ?_
  show (((rt_sq M).2.2 ++ [x]).length : Int) + (d - 1) ≤ ((rt_sq M).1 : Int)
  rw [List.length_append]
  show (((rt_sq M).2.2.length + 1 : Nat) : Int) + (d - 1) ≤ ((rt_sq M).1 : Int)
  omega
theorem rt_cl_w {M : fm_M} {k i j : Nat} {y : Int32} (h : ¬ (k = 36 ∧ j = 1) ∧ ¬ k = 37) : rt_kl (fm_wI M k i j y) = rt_kl M := by
  unfold rt_kl
  rw [fm_wI_nj (fun z => h.1 ⟨z.1.symm, z.2.2.symm⟩)]
  exact rt_seg_e (fun i _ => fm_wI_nj (fun z => h.2 z.1.symm))
theorem rt_adv_y {M u : fm_M} {x y t : Int32} (ex : x = M.1 32 0 6) (et : t = M.1 33 0 x.toNatClampNeg) (hn : ¬ t.toInt = 0) (hy : y.toInt = x.toInt + 1) (h0 : 0 ≤ x.toInt) (eu : u = fm_wI M 32 0 6 y) : rt_sq u = rt_adv (rt_tT M) (rt_sq M) := by
  unfold rt_sq rt_adv rt_tT
  show ((u.1 32 0 6).toNatClampNeg, (u.1 32 0 7).toInt, rt_kl u) = (if (M.1 33 0 (M.1 32 0 6).toNatClampNeg).toInt = 0 then (M.1 32 0 6).toNatClampNeg else (M.1 32 0 6).toNatClampNeg + 1, (M.1 32 0 7).toInt, rt_kl M)
  rw [← ex, ← et, if_neg hn, eu, fm_wI_at, fm_wI_nj (fun z => absurd z.2.2 (by decide)), zi_tns hy h0, rt_cl_w ⟨fun z => absurd z.1 (by decide), by decide⟩]
theorem rt_adv_n {M : fm_M} (h : (M.1 33 0 (M.1 32 0 6).toNatClampNeg).toInt = 0) : rt_sq M = rt_adv (rt_tT M) (rt_sq M) := by
  unfold rt_sq rt_adv rt_tT
  show ((M.1 32 0 6).toNatClampNeg, (M.1 32 0 7).toInt, rt_kl M) = (if (M.1 33 0 (M.1 32 0 6).toNatClampNeg).toInt = 0 then (M.1 32 0 6).toNatClampNeg else (M.1 32 0 6).toNatClampNeg + 1, (M.1 32 0 7).toInt, rt_kl M)
  rw [if_pos h]
theorem rt_RD_160 {d : Int} {c : Nat} {M : fm_M} (hR : rt_RD d c M) (h : 160 ≤ (M.1 32 0 6).toInt) : (M.1 33 0 (M.1 32 0 6).toNatClampNeg).toInt = 0 := by
  obtain ⟨r1, r2, r3, r4, r5, r6⟩ := hR
  have e : (M.1 32 0 6).toNatClampNeg = c := by rw [Int32.toNatClampNeg]; omega
  rw [e]
  exact r1
theorem rt_fail_y {M u : fm_M} {x y z : Int32} (ex : x = M.1 32 0 6) (ey : y = M.1 34 0 x.toNatClampNeg) (ez : z = M.1 32 0 7) (hz : z.toInt < 0) (eu : u = fm_wI M 32 0 7 y) : rt_sq u = rt_fail (rt_tS M) (rt_sq M) := by
  unfold rt_sq rt_fail rt_tS
  show ((u.1 32 0 6).toNatClampNeg, (u.1 32 0 7).toInt, rt_kl u) = ((M.1 32 0 6).toNatClampNeg, (if (M.1 32 0 7).toInt < 0 then (M.1 34 0 (M.1 32 0 6).toNatClampNeg).toInt else (M.1 32 0 7).toInt), rt_kl M)
  rw [← ez, if_pos hz, eu, fm_wI_at, fm_wI_nj (fun z => absurd z.2.2 (by decide)), ← ex, ← ey, rt_cl_w ⟨fun z => absurd z.1 (by decide), by decide⟩]
theorem rt_fail_n {M : fm_M} (h : ¬ (M.1 32 0 7).toInt < 0) : rt_sq M = rt_fail (rt_tS M) (rt_sq M) := by
  unfold rt_sq rt_fail
  show ((M.1 32 0 6).toNatClampNeg, (M.1 32 0 7).toInt, rt_kl M) = ((M.1 32 0 6).toNatClampNeg, (if (M.1 32 0 7).toInt < 0 then rt_tS M (M.1 32 0 6).toNatClampNeg else (M.1 32 0 7).toInt), rt_kl M)
  rw [if_neg h]
/-- a step is made -/
theorem rt_em_y {M u : fm_M} {x y p : Int32} (ex : x = M.1 36 0 1) (hy : y.toInt = x.toInt + 1) (h0 : 0 ≤ x.toInt) (eu : u = fm_wI (fm_wI M 37 0 x.toNatClampNeg p) 36 0 1 y) : rt_sq u = rt_em p (rt_sq M) := by
  have e1 : rt_kl u = rt_kl M ++ [p] := by
    unfold rt_kl
    rw [eu, fm_wI_at, zi_tns hy h0, ← ex]
    show rt_seg _ 0 x.toNatClampNeg ++ [(fm_wI (fm_wI M 37 0 x.toNatClampNeg p) 36 0 1 y).1 37 0 (0 + x.toNatClampNeg)] = _
    rw [Nat.zero_add, fm_wI_nj (fun z => absurd z.1 (by decide)), fm_wI_at]
    rw [rt_seg_e (B := M.1 37 0) (fun i hi => by rw [fm_wI_nj (fun z => absurd z.1 (by decide)), fm_wI_nj (fun z => by have z9 := z.2.2; omega)])]
  unfold rt_sq rt_em
  show ((u.1 32 0 6).toNatClampNeg, (u.1 32 0 7).toInt, rt_kl u) = ((M.1 32 0 6).toNatClampNeg, (M.1 32 0 7).toInt, rt_kl M ++ [p])
  rw [e1, eu, fm_wI_nj (fun z => absurd z.1 (by decide)), fm_wI_nj (fun z => absurd z.1 (by decide)), fm_wI_nj (fun z => absurd z.1 (by decide)), fm_wI_nj (fun z => absurd z.1 (by decide))]
theorem rt_see {T : Nat → Int} {M : fm_M} (e : rt_tT M = T) {k : Int} : ((M.1 32 0 7).toInt < 0 ∧ (M.1 33 0 (M.1 32 0 6).toNatClampNeg).toInt = k) ↔ ((rt_sq M).2.1 < 0 ∧ T (rt_sq M).1 = k) := by
  rw [← e]
  exact Iff.rfl
theorem rt_ka {d : Int} {c : Nat} {T S : Nat → Int} {V : Nat → Int32} {nt : Nat} {o : Int} {p q u : fm_M} {k : Int} (hT : rt_tT p = T) (hR : rt_RD d c p) (hk : k ≤ (p.1 32 0 6).toInt) (hs : ¬ T (rt_sq p).1 = 0) (ha : rt_sq q = rt_adv T (rt_sq p)) (hp : rt_PS T S V nt o (rt_sq q) (rt_sq u)) (h0 : 0 ≤ (u.1 32 0 6).toInt) : k + 1 ≤ (u.1 32 0 6).toInt := by
  have hc : T c = 0 := by rw [← hT]; exact hR.1
  have h1 := (rt_RD_at hR).1
  have h2 := (rt_gr_a (T := T) (s := rt_sq p) hc h1).2.1
  rw [← ha] at h2
  have h3 := (rt_PS_r hp hc h2).1
  rw [ha, rt_adv_1 hs] at h3
  have h5 : (p.1 32 0 6).toNatClampNeg + 1 ≤ (u.1 32 0 6).toNatClampNeg := h3
  have h6 := hR.2.2.2.1
  rw [Int32.toNatClampNeg, Int32.toNatClampNeg] at h5
  omega
theorem rt_sn160 {d : Int} {c : Nat} {T : Nat → Int} {M : fm_M} (hR : rt_RD d c M) (h : 160 ≤ (M.1 32 0 6).toInt) (e : rt_tT M = T) : T (rt_sq M).1 = 0 := by
  rw [← e]
  exact rt_RD_160 hR h
theorem rt_RD_sz {d : Int} {c : Nat} {M : fm_M} (hR : rt_RD d c M) (h : 1 ≤ d ∨ (0 ≤ d ∧ ¬ rt_tT M (rt_sq M).1 = 0)) : (M.1 36 0 1).toInt < 160 := by
  obtain ⟨r1, r2, r3, r4, r5, r6⟩ := hR
  rcases h with h | ⟨h, g⟩
  · omega
  · have e : ¬ (M.1 32 0 6).toNatClampNeg = c := by
      intro z
      apply g
      show rt_tT M (M.1 32 0 6).toNatClampNeg = 0
      rw [z]
      exact r1
    rw [Int32.toNatClampNeg] at e
    omega
theorem rt_v1_n {T : Nat → Int} {V : Nat → Int32} {k : Nat} {x : Int32} (h : T k = 12) (e : x = V k) : x = rt_v1 T V k := by
  unfold rt_v1
  rw [if_pos h, e]
theorem rt_v1_w {T : Nat → Int} {V : Nat → Int32} {k : Nat} {x y : Int32} (h : ¬ T k = 12) (e : T k = x.toInt) (ey : y.toInt = -x.toInt) : y = rt_v1 T V k := by
  unfold rt_v1
  rw [if_neg h, e, ← ey, Int32.ofInt_toInt]
/-- what a reading of the whole comes to: the place of the fault, or -1; the steps; how many are take's -/
def rt_RT (T S : Nat → Int) (V : Nat → Int32) (r : Int) (d : List Int32) (n : Nat) : Prop := ∃ s2 s5 : rt_Z, rt_PS T S V 0 0 (rt_need T S 7 (0, -1, [])) s2 ∧ rt_PS T S V 0 0 (rt_need T S 8 (rt_need T S 59 s2)) s5 ∧ r = (rt_need T S 0 (rt_need T S 59 s5)).2.1 ∧ d = s5.2.2 ∧ n = s2.2.2.length
theorem rt_RT_u {T S : Nat → Int} {V : Nat → Int32} {r q : Int} {d e : List Int32} {n m : Nat} (a : rt_RT T S V r d n) (b : rt_RT T S V q e m) : r = q ∧ d = e ∧ n = m := by
  obtain ⟨s, t, a1, a2, a3, a4, a5⟩ := a
  obtain ⟨s', t', b1, b2, b3, b4, b5⟩ := b
  have e1 := rt_PS_u a1 b1
  rw [← e1] at b2 b5
  have e2 := rt_PS_u a2 b2
  rw [← e2] at b3 b4
  exact ⟨a3.trans b3.symm, a4.trans b4.symm, a5.trans b5.symm⟩
/-- a number's value -/
def rt_num (f : Int → Int) (p : Int) (n : Nat) : Int32 := match n with
  | 0 => 0
  | n + 1 => 10 * rt_num f p n + Int32.ofInt (f (p + n)) - 48
theorem rt_nm_s {f : Int → Int} {p : Int} {x y v w b : Int32} (h : v = rt_num f p (x.toInt - p).toNat) (hx : p ≤ x.toInt) (hy : y.toInt = x.toInt + 1) (hb : b.toInt = f x.toInt) (hw : w = 10 * v + b - 48) : w = rt_num f p (y.toInt - p).toNat := by
  have e : (y.toInt - p).toNat = (x.toInt - p).toNat + 1 := by omega
  have e2 : p + ((x.toInt - p).toNat : Int) = x.toInt := by omega
  rw [e]
  show w = 10 * rt_num f p (x.toInt - p).toNat + Int32.ofInt (f (p + ((x.toInt - p).toNat : Int))) - 48
  rw [e2, ← hb, Int32.ofInt_toInt, ← h, hw]
/-- the tokens with their numbers, and while they are cut -/
def rt_NV (f : Int → Int) (c : Nat) (S B T : Nat → Int) (V : Nat → Int32) : Prop := ∀ k : Nat, k < c → T k = 12 → V k = rt_num f (S k) (B (k + 1) - S k).toNat
def rt_TW (f : Int → Int) (n : Int) (cnt : Nat) (S T : Nat → Int) (V : Nat → Int32) (pl : Int) : Prop := ∃ B : Nat → Int, (B 0 = 0 ∧ (∀ k : Nat, k < cnt → S k < n ∧ rt_SK f n (B k) (S k) ∧ rt_EN f n (S k) (B (k + 1)) ∧ rt_KD f (S k) (B (k + 1)) (T k)) ∧ B cnt ≤ pl ∧ pl ≤ n ∧ (∀ x : Int, B cnt ≤ x → x < pl → rt_isB (f x)) ∧ (cnt : Int) ≤ pl) ∧ rt_NV f cnt S B T V
theorem rt_TW_0 {f : Int → Int} {n : Int} {S T : Nat → Int} {V : Nat → Int32} (h : 0 ≤ n) : rt_TW f n 0 S T V 0 := ⟨fun _ => 0, ⟨rfl, fun k hk => absurd hk (Nat.not_lt_zero k), Int.le_refl _, h, fun x h1 h2 => absurd h2 (Int.not_lt.mpr h1), Int.le_refl _⟩, fun k hk => absurd hk (Nat.not_lt_zero k)⟩
theorem rt_TW_b {f : Int → Int} {n : Int} {cnt : Nat} {S T : Nat → Int} {V : Nat → Int32} {pl : Int} (h : rt_TW f n cnt S T V pl) (hn : pl < n) (hb : rt_isB (f pl)) : rt_TW f n cnt S T V (pl + 1) := by
  obtain ⟨B, ⟨b0, b1, b2, b3, b4, b5⟩, b6⟩ := h
  refine ⟨B, ⟨b0, b1, by omega, by omega, fun x h1 h2 => ?_, by omega⟩, b6⟩
  rcases Int.lt_or_le x pl with g | g
  · exact b4 x h1 g
  · rw [show x = pl by omega]
    exact hb
theorem rt_TW_t {f : Int → Int} {n : Int} {cnt : Nat} {S T S1 T1 : Nat → Int} {V V1 : Nat → Int32} {pl e : Int} (h : rt_TW f n cnt S T V pl) (hn : pl < n) (hb : ¬ rt_isB (f pl)) (hS : ∀ k : Nat, k < cnt → S1 k = S k) (hT : ∀ k : Nat, k < cnt → T1 k = T k) (hV : ∀ k : Nat, k < cnt → V1 k = V k) (hs : S1 cnt = pl) (hE : rt_EN f n pl e) (hK : rt_KD f pl e (T1 cnt)) (hN : T1 cnt = 12 → V1 cnt = rt_num f pl (e - pl).toNat) : rt_TW f n (cnt + 1) S1 T1 V1 e := by
  obtain ⟨B, ⟨b0, b1, b2, b3, b4, b5⟩, b6⟩ := h
  have e1 := hE.1
  have e2 := hE.2.1
  refine ⟨fun k => if k = cnt + 1 then e else B k, ⟨?_, fun k hk => ?_, ?_, e2, fun x h1 h2 => ?_, by omega⟩, fun k hk ht => ?_⟩
  · show (if 0 = cnt + 1 then e else B 0) = 0
    rw [if_neg (by omega), b0]
  · show S1 k < n ∧ rt_SK f n (if k = cnt + 1 then e else B k) (S1 k) ∧ rt_EN f n (S1 k) (if k + 1 = cnt + 1 then e else B (k + 1)) ∧ rt_KD f (S1 k) (if k + 1 = cnt + 1 then e else B (k + 1)) (T1 k)
    rw [if_neg (by omega)]
    by_cases g : k = cnt
    · rw [if_pos (by omega), g, hs]
      exact ⟨hn, ⟨b2, b3, b4, fun z => hb z.2⟩, hE, hK⟩
    · rw [if_neg (by omega), hS k (by omega), hT k (by omega)]
      exact b1 k (by omega)
  · show (if cnt + 1 = cnt + 1 then e else B (cnt + 1)) ≤ e
    rw [if_pos rfl]
    exact Int.le_refl _
  · have h1 : (if cnt + 1 = cnt + 1 then e else B (cnt + 1)) ≤ x := h1
    rw [if_pos rfl] at h1
    omega
  · show V1 k = rt_num f (S1 k) ((if k + 1 = cnt + 1 then e else B (k + 1)) - S1 k).toNat
    by_cases g : k = cnt
    · rw [if_pos (by omega), g, hs]
      rw [g] at ht
      exact hN ht
    · rw [if_neg (by omega), hS k (by omega), hV k (by omega)]
      rw [hT k (by omega)] at ht
      exact b6 k (by omega) ht
theorem rt_TW_x {f : Int → Int} {n : Int} {cnt : Nat} {S T S1 T1 : Nat → Int} {V : Nat → Int32} {pl : Int} (h : rt_TW f n cnt S T V pl) (hn : n ≤ pl) (hS : ∀ k : Nat, k < cnt → S1 k = S k) (hT : ∀ k : Nat, k < cnt → T1 k = T k) (hs : S1 cnt = n) (ht : T1 cnt = 0) : ∃ B : Nat → Int, rt_TK f n cnt S1 B T1 ∧ rt_NV f cnt S1 B T1 V := by
  obtain ⟨B, ⟨b0, b1, b2, b3, b4, b5⟩, b6⟩ := h
  refine ⟨fun k => if k = cnt + 1 then n else B k, ⟨?_, fun k hk => ?_, ?_, hs, ?_, ht⟩, fun k hk h2 => ?_⟩
  · show (if 0 = cnt + 1 then n else B 0) = 0
    rw [if_neg (by omega), b0]
  · show S1 k < n ∧ rt_SK f n (if k = cnt + 1 then n else B k) (S1 k) ∧ rt_EN f n (S1 k) (if k + 1 = cnt + 1 then n else B (k + 1)) ∧ rt_KD f (S1 k) (if k + 1 = cnt + 1 then n else B (k + 1)) (T1 k)
    rw [if_neg (by omega), if_neg (by omega), hS k hk, hT k hk]
    exact b1 k hk
  · show rt_SK f n (if cnt = cnt + 1 then n else B cnt) (S1 cnt)
    rw [if_neg (by omega), hs]
    exact ⟨by omega, Int.le_refl _, fun x h1 h2 => b4 x h1 (by omega), fun z => absurd z.1 (by omega)⟩
  · show (if cnt + 1 = cnt + 1 then n else B (cnt + 1)) = n
    rw [if_pos rfl]
  · show V k = rt_num f (S1 k) ((if k + 1 = cnt + 1 then n else B (k + 1)) - S1 k).toNat
    rw [if_neg (by omega), hS k hk]
    rw [hT k hk] at h2
    exact b6 k hk h2
theorem rt_cl_0 {M : fm_M} (h : (M.1 36 0 1).toInt = 0) : rt_kl M = [] := by
  unfold rt_kl
  rw [show (M.1 36 0 1).toNatClampNeg = 0 by rw [Int32.toNatClampNeg]; omega]
  rfl
theorem rt_sq_w {M : fm_M} {k i j : Nat} {y : Int32} (h : ¬ k = 32 ∧ ¬ (k = 36 ∧ j = 1) ∧ ¬ k = 37) : rt_sq (fm_wI M k i j y) = rt_sq M := by
  unfold rt_sq
  rw [rt_cl_w h.2, fm_wI_nj (fun z => h.1 z.1.symm), fm_wI_nj (fun z => h.1 z.1.symm)]
theorem rt_need_cd {T S : Nat → Int} {k : Int} {s : rt_Z} : (rt_need T S k s).2.2 = s.2.2 := by
  unfold rt_need
  by_cases z : s.2.1 < 0 ∧ T s.1 = k
  · rw [if_pos z]
    rfl
  · rw [if_neg z]
    rfl
