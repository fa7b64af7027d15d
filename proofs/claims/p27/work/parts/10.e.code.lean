/-- the texts kept by the reference, with the tape's first n bytes put down from b on -/
def rt_tx (M : fm_M) (b n : Int) (q : Nat) : Int32 := if b ≤ q ∧ (q : Int) < b + n then M.1 151 0 (q - b.toNat) else M.1 153 0 q
theorem rt_tx_0 {M : fm_M} {b n : Int} {q : Nat} (h : n = 0) : rt_tx M b n q = M.1 153 0 q := by
  unfold rt_tx
  rw [if_neg (by omega)]
theorem rt_tx_s {M : fm_M} {A : Nat → Int32} {b : Int} {k k1 ix v : Int32} (h : ∀ q : Nat, A q = rt_tx M b k.toInt q) (hb : 0 ≤ b) (hk : 0 ≤ k.toInt) (h1 : k1.toInt = k.toInt + 1) (hi : ix.toInt = b + k.toInt) (hv : v = M.1 151 0 k.toNatClampNeg) (q : Nat) : (if q = ix.toNatClampNeg then v else A q) = rt_tx M b k1.toInt q := by
  by_cases g : q = ix.toNatClampNeg
  · have e : (q : Int) = b + k.toInt := by
      rw [g, Int32.toNatClampNeg]
      omega
    unfold rt_tx
    rw [if_pos g, if_pos (by omega), hv, show q - b.toNat = k.toNatClampNeg by rw [Int32.toNatClampNeg]; omega]
  · have e : ¬ (q : Int) = b + k.toInt := by
      intro z
      apply g
      rw [Int32.toNatClampNeg, hi, ← z]
      omega
    rw [if_neg g, h q]
    unfold rt_tx
    by_cases c : b ≤ q ∧ (q : Int) < b + k.toInt
    · rw [if_pos c, if_pos (by omega)]
    · rw [if_neg c, if_neg (by omega)]
/-- a text of the class: its steps, and how many are take's -/
def rt_kt (M : fm_M) (k : Nat) : List Int32 × Nat := (rt_seg (M.1 49 k) 0 (M.1 48 k 1).toNatClampNeg, (M.1 48 k 2).toNatClampNeg)
theorem rt_ct_same {es : List Nat} {M u : fm_M} (s : fm_same es M u) (h : ∀ c ∈ ([48001, 48002, 49000] : List Nat), c ∉ es) (k : Nat) : rt_kt u k = rt_kt M k := by
  have e : u.1 49 k = M.1 49 k := funext fun i => (s 49 k i (by rw [cd_49]; exact h _ (by decide))).1
  unfold rt_kt
  rw [e, (s 48 k 1 (h _ (by decide))).1, (s 48 k 2 (h _ (by decide))).1]
/-- what both hold of a text: the reference's bytes read as the class's steps -/
def rt_TR (M : fm_M) (k : Nat) : Prop := ∃ (c : Nat) (S B T : Nat → Int) (V : Nat → Int32) (ft : Int), ft < 0 ∧ rt_TK (rt_mb M (160 * k)) (M.1 154 0 k).toInt c S B T ∧ rt_NV (rt_mb M (160 * k)) c S B T V ∧ rt_RT T S V ft (rt_kt M k).1 (rt_kt M k).2
theorem rt_seg_t {A : Nat → Int32} {n m : Nat} (h : m ≤ n) : (rt_seg A 0 n).take m = rt_seg A 0 m := by
  induction n with
  | zero =>
    rw [show m = 0 by omega]
    rfl
  | succ n ih =>
    rcases Nat.lt_or_ge n m with g | g
    · rw [show m = n + 1 by omega]
      exact List.take_of_length_le (by rw [rt_seg_l]; exact Nat.le_refl _)
    · show (rt_seg A 0 n ++ [A (0 + n)]).take m = rt_seg A 0 m
      rw [List.take_append_of_le_length (by rw [rt_seg_l]; exact g)]
      exact ih g
theorem rt_seg_d {A : Nat → Int32} {m : Nat} : ∀ n : Nat, (rt_seg A 0 (m + n)).drop m = rt_seg A m n := by
  intro n
  induction n with
  | zero =>
    show (rt_seg A 0 m).drop m = []
    exact List.drop_of_length_le (by rw [rt_seg_l]; exact Nat.le_refl _)
  | succ n ih =>
    show (rt_seg A 0 (m + n) ++ [A (0 + (m + n))]).drop m = rt_seg A m n ++ [A (m + n)]
    rw [List.drop_append_of_le_length (by rw [rt_seg_l]; omega), ih, Nat.zero_add]
theorem rt_part_t {M : fm_M} {k : Nat} {p : Int32} (hp : p.toInt = 0) (h : (M.1 48 k 2).toNatClampNeg ≤ (M.1 48 k 1).toNatClampNeg) : rt_part M k p = (rt_kt M k).1.take (rt_kt M k).2 := by
  unfold rt_part
  rw [if_pos hp]
  exact (rt_seg_t h).symm
theorem rt_part_g {M : fm_M} {k : Nat} {p : Int32} (hp : ¬ p.toInt = 0) (h : (M.1 48 k 2).toNatClampNeg ≤ (M.1 48 k 1).toNatClampNeg) : rt_part M k p = (rt_kt M k).1.drop (rt_kt M k).2 := by
  unfold rt_part
  rw [if_neg hp]
  have e := rt_seg_d (A := M.1 49 k) (m := (M.1 48 k 2).toNatClampNeg) ((M.1 48 k 1).toNatClampNeg - (M.1 48 k 2).toNatClampNeg)
  rw [Nat.add_sub_cancel' h] at e
  exact e.symm
theorem rt_cpy {M : fm_M} {kt i j : Nat} (hj : j < 160) : (fm_wA M 49 kt (va_cpy (M.1 37 0) (M.1 49 kt) (0 : Int32).toNatClampNeg (0 : Int32).toNatClampNeg (160 : Int32).toNatClampNeg)).1 49 i j = if i = kt then M.1 37 0 j else M.1 49 i j := by
  by_cases g : i = kt
  · rw [g, fm_wA_at, if_pos rfl]
    show va_cpy (M.1 37 0) (M.1 49 kt) 0 0 160 j = M.1 37 0 j
    unfold va_cpy
    rw [if_pos (by omega), Nat.zero_add, Nat.sub_zero]
  · rw [fm_wA_ne (fun z => g z.2), if_neg g]
theorem rt_ct_b {M u : fm_M} {kt : Nat} (h1 : ∀ i : Nat, u.1 48 i 1 = if i = kt then M.1 36 0 1 else M.1 48 i 1) (h2 : ∀ i : Nat, u.1 48 i 2 = if i = kt then M.1 36 0 2 else M.1 48 i 2) (h3 : ∀ i j : Nat, j < 160 → u.1 49 i j = if i = kt then M.1 37 0 j else M.1 49 i j) (b1 : (M.1 36 0 1).toInt ≤ 160) (b2 : ∀ i : Nat, (M.1 48 i 1).toInt ≤ 160) (i : Nat) : rt_kt u i = if i = kt then (rt_kl M, (M.1 36 0 2).toNatClampNeg) else rt_kt M i := by
  unfold rt_kt rt_kl
  by_cases g : i = kt
  · rw [if_pos g, h1 i, if_pos g, h2 i, if_pos g]
    rw [rt_seg_e (B := M.1 37 0) (fun j hj => by rw [h3 i _ (by rw [Int32.toNatClampNeg] at hj; omega), if_pos g])]
  · rw [if_neg g, h1 i, if_neg g, h2 i, if_neg g]
    have b := b2 i
    rw [rt_seg_e (B := M.1 49 i) (fun j hj => by rw [h3 i _ (by rw [Int32.toNatClampNeg] at hj; omega), if_neg g])]
/-- the fuel of a man's body -/
def rt_fuC (nb : Nat) (M : fm_M) (p : Int32) : Int32 := if 0 ≤ (M.1 22 0 p.toNatClampNeg).toInt ∧ (M.1 22 0 p.toNatClampNeg).toInt < nb then M.1 50 (M.1 22 0 p.toNatClampNeg).toNatClampNeg 4 else 0
def rt_fuK (nb : Nat) (M : fm_M) (k : Nat) : Int32 := if 0 ≤ (M.1 22 0 k).toInt ∧ (M.1 22 0 k).toInt < nb then M.1 50 (M.1 22 0 k).toNatClampNeg 4 else 0
theorem rt_fu_s {nb : Nat} {es : List Nat} {M u : fm_M} (s : fm_same es M u) (h : ∀ c ∈ ([22000, 50004] : List Nat), c ∉ es) {p : Int32} : rt_fuC nb u p = rt_fuK nb M p.toNatClampNeg := by
  unfold rt_fuC rt_fuK
  rw [(s 22 0 p.toNatClampNeg (by rw [cd_22]; exact h _ (by decide))).1, (s 50 _ 4 (h _ (by decide))).1]
/-- j is ahead of k: more take, or as much and told earlier -/
abbrev rt_bf (t : Nat → Int) (j k : Nat) : Prop := t k < t j ∨ (t j = t k ∧ j < k)
/-- how many of the first n men of body x are ahead of k -/
def rt_rk (b t : Nat → Int) (x : Int) (k n : Nat) : Nat := match n with
  | 0 => 0
  | n + 1 => rt_rk b t x k n + (if b n = x ∧ rt_bf t n k then 1 else 0)
/-- how many of the first n men are of body x -/
def rt_ofb (b : Nat → Int) (x : Int) (n : Nat) : Nat := match n with
  | 0 => 0
  | n + 1 => rt_ofb b x n + (if b n = x then 1 else 0)
theorem rt_rk_y {b t : Nat → Int} {x : Int} {k n : Nat} (h : b n = x ∧ rt_bf t n k) : rt_rk b t x k (n + 1) = rt_rk b t x k n + 1 := by
  show rt_rk b t x k n + (if b n = x ∧ rt_bf t n k then 1 else 0) = _
  rw [if_pos h]
theorem rt_rk_n {b t : Nat → Int} {x : Int} {k n : Nat} (h : ¬ (b n = x ∧ rt_bf t n k)) : rt_rk b t x k (n + 1) = rt_rk b t x k n := by
  show rt_rk b t x k n + (if b n = x ∧ rt_bf t n k then 1 else 0) = _
  rw [if_neg h]
  rfl
theorem rt_ofb_y {b : Nat → Int} {x : Int} {n : Nat} (h : b n = x) : rt_ofb b x (n + 1) = rt_ofb b x n + 1 := by
  show rt_ofb b x n + (if b n = x then 1 else 0) = _
  rw [if_pos h]
theorem rt_ofb_n {b : Nat → Int} {x : Int} {n : Nat} (h : ¬ b n = x) : rt_ofb b x (n + 1) = rt_ofb b x n := by
  show rt_ofb b x n + (if b n = x then 1 else 0) = _
  rw [if_neg h]
  rfl
/-- who is ahead of one that is ahead is ahead -/
theorem rt_rk_le {b t : Nat → Int} {x : Int} {k l : Nat} (h : rt_bf t k l) : ∀ n : Nat, rt_rk b t x k n ≤ rt_rk b t x l n := by
  intro n
  induction n with
  | zero => exact Nat.le_refl _
  | succ n ih =>
    by_cases g : b n = x ∧ rt_bf t n k
    · have g2 : b n = x ∧ rt_bf t n l := ⟨g.1, by have g3 := g.2; omega⟩
      rw [rt_rk_y g, rt_rk_y g2]
      omega
    · rw [rt_rk_n g]
      by_cases g2 : b n = x ∧ rt_bf t n l
      · rw [rt_rk_y g2]
        omega
      · rw [rt_rk_n g2]
        exact ih
theorem rt_rk_lt {b t : Nat → Int} {x : Int} {k l : Nat} (h : rt_bf t k l) (hb : b k = x) : ∀ n : Nat, k < n → rt_rk b t x k n < rt_rk b t x l n := by
  intro n
  induction n with
  | zero => intro z; exact absurd z (Nat.not_lt_zero k)
  | succ n ih =>
    intro hk
    by_cases e : k = n
    · have n1 : ¬ (b n = x ∧ rt_bf t n k) := by
        intro z
        have z2 := z.2
        rw [e] at z2
        omega
      have y2 : b n = x ∧ rt_bf t n l := by rw [← e]; exact ⟨hb, h⟩
      have le := rt_rk_le (b := b) (x := x) h n
      rw [rt_rk_n n1, rt_rk_y y2]
      omega
    · have i := ih (by omega)
      by_cases g : b n = x ∧ rt_bf t n k
      · have g2 : b n = x ∧ rt_bf t n l := ⟨g.1, by have g3 := g.2; omega⟩
        rw [rt_rk_y g, rt_rk_y g2]
        omega
      · rw [rt_rk_n g]
        by_cases g2 : b n = x ∧ rt_bf t n l
        · rw [rt_rk_y g2]
          omega
        · rw [rt_rk_n g2]
          exact i
/-- a place in the row is one man's alone -/
theorem rt_rk_u {b t : Nat → Int} {x : Int} {k l n : Nat} (hk : k < n ∧ b k = x) (hl : l < n ∧ b l = x) (e : rt_rk b t x k n = rt_rk b t x l n) : k = l := by
  rcases (show rt_bf t k l ∨ k = l ∨ rt_bf t l k by omega) with h | h | h
  · have := rt_rk_lt (b := b) (x := x) h hk.2 n hk.1
    omega
  · exact h
  · have := rt_rk_lt (b := b) (x := x) h hl.2 n hl.1
    omega
theorem rt_rk_of {b t : Nat → Int} {x : Int} {k : Nat} : ∀ n : Nat, rt_rk b t x k n ≤ rt_ofb b x n := by
  intro n
  induction n with
  | zero => exact Nat.le_refl _
  | succ n ih =>
    by_cases g : b n = x
    · rw [rt_ofb_y g]
      by_cases g2 : b n = x ∧ rt_bf t n k
      · rw [rt_rk_y g2]
        omega
      · rw [rt_rk_n g2]
        omega
    · rw [rt_ofb_n g, rt_rk_n (fun z => g z.1)]
      exact ih
theorem rt_rk_in {b t : Nat → Int} {x : Int} {k : Nat} (hb : b k = x) : ∀ n : Nat, k < n → rt_rk b t x k n < rt_ofb b x n := by
  intro n
  induction n with
  | zero => intro z; exact absurd z (Nat.not_lt_zero k)
  | succ n ih =>
    intro hk
    by_cases e : k = n
    · have n1 : ¬ (b n = x ∧ rt_bf t n k) := by
        intro z
        have z2 := z.2
        rw [e] at z2
        omega
      have le := rt_rk_of (b := b) (t := t) (x := x) (k := k) n
      rw [rt_rk_n n1, rt_ofb_y (by rw [← e]; exact hb)]
      omega
    · have i := ih (by omega)
      by_cases g : b n = x
      · rw [rt_ofb_y g]
        by_cases g2 : b n = x ∧ rt_bf t n k
        · rw [rt_rk_y g2]
          omega
        · rw [rt_rk_n g2]
          omega
      · rw [rt_ofb_n g, rt_rk_n (fun z => g z.1)]
        exact i
/-- the row of the reference after m men: c of them are of the body, each at his place, and takes do not grow along it -/
def rt_row (b t : Nat → Int) (x : Int) (A : Nat → Nat) (c m : Nat) : Prop := c = rt_ofb b x m ∧ (∀ p : Nat, p < c → A p < m ∧ b (A p) = x ∧ rt_rk b t x (A p) m = p) ∧ (∀ k : Nat, k < m → b k = x → A (rt_rk b t x k m) = k)
theorem rt_row_0 {b t : Nat → Int} {x : Int} {A : Nat → Nat} : rt_row b t x A 0 0 := ⟨rfl, fun p hp => absurd hp (Nat.not_lt_zero p), fun k hk => absurd hk (Nat.not_lt_zero k)⟩
theorem rt_row_skip {b t : Nat → Int} {x : Int} {A : Nat → Nat} {c m : Nat} (h : rt_row b t x A c m) (hb : ¬ b m = x) : rt_row b t x A c (m + 1) := by
  obtain ⟨h1, h2, h3⟩ := h
  refine ⟨by rw [rt_ofb_n hb]; exact h1, fun p hp => ?_, fun k hk hx => ?_⟩
  · obtain ⟨a, e, d⟩ := h2 p hp
    exact ⟨by omega, e, by rw [rt_rk_n (fun z => hb z.1)]; exact d⟩
  · have hm : ¬ k = m := fun e => hb (by rw [← e]; exact hx)
    rw [rt_rk_n (fun z => hb z.1)]
    exact h3 k (by omega) hx
theorem rt_row_ins {b t : Nat → Int} {x : Int} {A B : Nat → Nat} {c m p : Nat} (h : rt_row b t x A c m) (hb : b m = x) (hp : p ≤ c) (hlo : ∀ q : Nat, p ≤ q → q < c → t (A q) < t m) (hhi : p = 0 ∨ t m ≤ t (A (p - 1))) (e1 : ∀ q : Nat, q < p → B q = A q) (e2 : B p = m) (e3 : ∀ q : Nat, p ≤ q → q < c → B (q + 1) = A q) : rt_row b t x B (c + 1) (m + 1) := by
  obtain ⟨h1, h2, h3⟩ := h
  have hup : ∀ q : Nat, q < p → t m ≤ t (A q) := by
    intro q hq
    rcases hhi with z | z
    · exact absurd hq (by omega)
    · by_cases e : q = p - 1
      · rw [e]
        exact z
      · obtain ⟨a1, a2, a3⟩ := h2 q (by omega)
        obtain ⟨d1, d2, d3⟩ := h2 (p - 1) (by omega)
        rcases (show rt_bf t (A q) (A (p - 1)) ∨ A q = A (p - 1) ∨ rt_bf t (A (p - 1)) (A q) by omega) with g | g | g
        · omega
        · rw [g] at a3
          exact absurd (a3.symm.trans d3) e
        · have l := rt_rk_lt (b := b) (x := x) g d2 m d1
          omega
  have nm : ¬ (b m = x ∧ rt_bf t m m) := fun z => by have z2 := z.2; omega
  have rm : rt_rk b t x m (m + 1) = p := by
    rw [rt_rk_n nm]
    have up : rt_rk b t x m m ≤ p := by
      rcases Nat.lt_or_ge p c with g | g
      · obtain ⟨a1, a2, a3⟩ := h2 p g
        have l := rt_rk_le (b := b) (x := x) (k := m) (l := A p) (Or.inl (hlo p (Nat.le_refl _) g)) m
        omega
      · have l := rt_rk_of (b := b) (t := t) (x := x) (k := m) m
        omega
    have lo : p ≤ rt_rk b t x m m := by
      rcases Nat.eq_zero_or_pos p with g | g
      · omega
      · obtain ⟨a1, a2, a3⟩ := h2 (p - 1) (by omega)
        have l := rt_rk_lt (b := b) (t := t) (x := x) (k := A (p - 1)) (l := m) (by have z := hup (p - 1) (by omega); omega) a2 m a1
        omega
    omega
  have rl : ∀ q : Nat, q < p → rt_rk b t x (A q) (m + 1) = q := by
    intro q hq
    obtain ⟨a1, a2, a3⟩ := h2 q (by omega)
    have z := hup q hq
    rw [rt_rk_n (fun y => by have y2 := y.2; omega)]
    exact a3
  have rh : ∀ q : Nat, p ≤ q → q < c → rt_rk b t x (A q) (m + 1) = q + 1 := by
    intro q hq hc
    obtain ⟨a1, a2, a3⟩ := h2 q hc
    rw [rt_rk_y ⟨hb, Or.inl (hlo q hq hc)⟩, a3]
  refine ⟨by rw [rt_ofb_y hb, ← h1], fun q hq => ?_, fun k hk hx => ?_⟩
  · rcases Nat.lt_trichotomy q p with g | g | g
    · obtain ⟨a1, a2, a3⟩ := h2 q (by omega)
      rw [e1 q g]
      exact ⟨by omega, a2, rl q g⟩
    · rw [g, e2]
      exact ⟨by omega, hb, rm⟩
    · obtain ⟨a1, a2, a3⟩ := h2 (q - 1) (by omega)
      have e := e3 (q - 1) (by omega) (by omega)
      rw [show q - 1 + 1 = q by omega] at e
      rw [e]
      have r := rh (q - 1) (by omega) (by omega)
      exact ⟨by omega, a2, by omega⟩
  · rcases (show k = m ∨ k < m by omega) with g | g
    · rw [g, rm, e2]
    · have a := h3 k g hx
      have l := rt_rk_in (t := t) hx m g
      rcases Nat.lt_or_ge (rt_rk b t x k m) p with d | d
      · have r := rl _ d
        rw [a] at r
        rw [r, e1 _ d, a]
      · have r := rh _ d (by omega)
        rw [a] at r
        rw [r, e3 _ d (by omega), a]
/-- class and reference name the same man -/
theorem rt_turn {b t s : Nat → Int} {x i r : Int} {A : Nat → Nat} {c n : Nat} (ht : ∀ k : Nat, k < n → b k = x → s k = t k) (hr : rt_row b s x A c n) (h1 : (r = -1 ∧ ∀ k : Nat, k < n → b k = x → ¬ (rt_rk b t x k n : Int) = i) ∨ (0 ≤ r ∧ r < n ∧ b r.toNat = x ∧ (rt_rk b t x r.toNat n : Int) = i)) (hq : ∀ k : Nat, k < n → b k = x → rt_rk b s x k n = rt_rk b t x k n) : r = if 0 ≤ i ∧ i < c then (A i.toNat : Int) else -1 := by
  obtain ⟨r1, r2, r3⟩ := hr
  by_cases g : 0 ≤ i ∧ i < c
  · rw [if_pos g]
    obtain ⟨a1, a2, a3⟩ := r2 i.toNat (by omega)
    rcases h1 with ⟨_, h⟩ | ⟨d1, d2, d3, d4⟩
    · exact absurd (by rw [← hq _ a1 a2, a3]; omega) (h _ a1 a2)
    · have e : r.toNat = A i.toNat := by
        refine rt_rk_u (b := b) (t := t) (x := x) (n := n) ⟨by omega, d3⟩ ⟨a1, a2⟩ ?_
        rw [← hq _ a1 a2, a3]
        omega
      omega
  · rw [if_neg g]
    rcases h1 with ⟨h, _⟩ | ⟨d1, d2, d3, d4⟩
    · exact h
    · exfalso
      have l := rt_rk_in (t := t) d3 n (by omega)
      omega
theorem rt_rk_t {b t s : Nat → Int} {x : Int} {k : Nat} : ∀ n : Nat, (∀ j : Nat, j < n → b j = x → s j = t j) → s k = t k → rt_rk b s x k n = rt_rk b t x k n := by
  intro n
  induction n with
  | zero => exact fun _ _ => rfl
  | succ n ih =>
    intro h hk
    have i := ih (fun j hj => h j (by omega)) hk
    by_cases g : b n = x
    · have e := h n (by omega) g
      by_cases g2 : rt_bf t n k
      · rw [rt_rk_y ⟨g, g2⟩, rt_rk_y ⟨g, by omega⟩, i]
      · rw [rt_rk_n (fun z => g2 z.2), rt_rk_n (fun z => g2 (by have z2 := z.2; omega)), i]
    · rw [rt_rk_n (fun z => g z.1), rt_rk_n (fun z => g z.1), i]
/-- the k-th byte of eight -/
def rt_by (x : Int64) (k : Int32) : Int32 := ((x.toUInt64 >>> ((8 * k).toInt64.toUInt64 &&& Int64.toUInt64 63)).toInt64 &&& 255).toInt32
def rt_fdr (A : Nat → Int32) (x : Int64) (n k : Int) (j : Nat) : Int32 := if n ≤ j ∧ (j : Int) < n + k then rt_by x (Int32.ofInt (j - n)) else A j
theorem rt_fdr_0 {A : Nat → Int32} {x : Int64} {n k : Int} {j : Nat} (h : k = 0) : rt_fdr A x n k j = A j := by
  unfold rt_fdr
  rw [if_neg (by omega)]
theorem rt_fst {A B : Nat → Int32} {x : Int64} {n : Int} {k k1 ix v : Int32} (h : ∀ j : Nat, A j = rt_fdr B x n k.toInt j) (hn : 0 ≤ n) (hk : 0 ≤ k.toInt) (h1 : k1.toInt = k.toInt + 1) (hi : ix.toInt = n + k.toInt) (hv : v = rt_by x k) (j : Nat) : (if j = ix.toNatClampNeg then v else A j) = rt_fdr B x n k1.toInt j := by
  by_cases g : j = ix.toNatClampNeg
  · have e : (j : Int) = n + k.toInt := by
      rw [g, Int32.toNatClampNeg]
      omega
    unfold rt_fdr
    rw [if_pos g, if_pos (by omega), show (j : Int) - n = k.toInt by omega, Int32.ofInt_toInt]
    exact hv
  · have e : ¬ (j : Int) = n + k.toInt := by
      intro z
      apply g
      rw [Int32.toNatClampNeg, hi, ← z]
      omega
    rw [if_neg g, h j]
    unfold rt_fdr
    by_cases c : n ≤ j ∧ (j : Int) < n + k.toInt
    · rw [if_pos c, if_pos (by omega)]
    · rw [if_neg c, if_neg (by omega)]
def rt_ccn (M : fm_M) (k : Int32) : Int32 := if k.toInt = 0 then M.1 0 0 9 else if k.toInt = 1 then M.1 0 0 10 else if k.toInt = 2 then M.1 1 0 2 else if k.toInt = 3 then M.1 0 0 11 else if k.toInt = 4 then M.1 5 0 1 else if k.toInt = 5 then M.1 5 0 8 else if k.toInt = 6 then M.1 5 0 12 else if k.toInt = 7 then M.1 16 0 1 else if k.toInt = 8 then M.1 21 0 5 else if k.toInt = 9 then M.1 38 0 3 else if k.toInt = 10 then M.1 42 0 1 else if k.toInt = 11 then M.1 27 0 3 else if k.toInt = 12 then M.1 27 0 1 else if k.toInt = 13 then M.1 27 0 4 else if k.toInt = 14 then M.1 0 0 12 else -2
def rt_mcn (M : fm_M) (k : Int32) : Int32 := if k.toInt = 0 then M.1 60 0 0 else if k.toInt = 1 then M.1 60 0 16 else if k.toInt = 2 then M.1 60 0 5 else if k.toInt = 3 then M.1 60 0 21 else if k.toInt = 4 then M.1 60 0 23 else if k.toInt = 5 then M.1 60 0 30 else if k.toInt = 6 then M.1 60 0 34 else if k.toInt = 7 then M.1 60 0 36 else if k.toInt = 8 then M.1 60 0 44 else if k.toInt = 9 then M.1 60 0 48 else if k.toInt = 10 then M.1 60 0 50 else if k.toInt = 11 then M.1 60 0 55 else if k.toInt = 12 then M.1 60 0 52 else if k.toInt = 13 then M.1 60 0 56 else if k.toInt = 14 then M.1 60 0 1 else -2
