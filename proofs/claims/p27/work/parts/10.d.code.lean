/-- the bytes that the reference reads: those of the tape (b < 0), or of the kept texts from b on -/
def rt_mb (M : fm_M) (b : Int) (x : Int) : Int := if b < 0 then (M.1 151 0 x.toNat).toInt else (M.1 153 0 (b + x).toNat).toInt
theorem rt_mb_t {M : fm_M} {b p x : Int32} (eb : b = M.1 60 0 62) (hb : b.toInt < 0) (ex : x = M.1 151 0 p.toNatClampNeg) : x.toInt = rt_mb M (M.1 60 0 62).toInt p.toInt := by
  unfold rt_mb
  rw [← eb, if_pos hb, ex]
  rfl
theorem rt_mb_k {M : fm_M} {b p x y : Int32} (eb : b = M.1 60 0 62) (hb : ¬ b.toInt < 0) (hy : y.toInt = b.toInt + p.toInt) (ex : x = M.1 153 0 y.toNatClampNeg) : x.toInt = rt_mb M (M.1 60 0 62).toInt p.toInt := by
  unfold rt_mb
  rw [← eb, if_neg hb, ← hy, ex]
  rfl
theorem rt_mbt {es : List Nat} {M u : fm_M} (s : fm_same es M u) (h : ∀ c ∈ ([151000, 153000] : List Nat), c ∉ es) (b : Int) : rt_mb u b = rt_mb M b := by
  refine funext fun x => ?_
  unfold rt_mb
  rw [(s 151 0 x.toNat (by rw [cd_151]; exact h _ (by decide))).1, (s 153 0 (b + x).toNat (by rw [cd_153]; exact h _ (by decide))).1]
theorem rt_mbs {es : List Nat} {M u : fm_M} (s : fm_same es M u) (h : ∀ c ∈ ([60062, 60063, 151000, 153000] : List Nat), c ∉ es) : rt_mb u (u.1 60 0 62).toInt = rt_mb M (M.1 60 0 62).toInt ∧ u.1 60 0 63 = M.1 60 0 63 := by
  refine ⟨?_, (s 60 0 63 (h _ (by decide))).1⟩
  rw [(s 60 0 62 (h _ (by decide))).1]
  refine rt_mbt s (fun c hc => h c ?_) _
  rcases List.mem_cons.mp hc with rfl | hc
  · decide
  · rcases List.mem_cons.mp hc with rfl | hc
    · decide
    · exact absurd hc List.not_mem_nil
abbrev rt_TM (M : fm_M) (c : Nat) (S B T : Nat → Int) : Prop := rt_TK (rt_mb M (M.1 60 0 62).toInt) (M.1 60 0 63).toInt c S B T
theorem rt_TMs {es : List Nat} {M u : fm_M} (s : fm_same es M u) (h : ∀ c ∈ ([60062, 60063, 151000, 153000] : List Nat), c ∉ es) {c : Nat} {S B T : Nat → Int} (hT : rt_TM M c S B T) : rt_TM u c S B T := by
  obtain ⟨e1, e2⟩ := rt_mbs s h
  show rt_TK (rt_mb u (u.1 60 0 62).toInt) (u.1 60 0 63).toInt c S B T
  rw [e1, e2]
  exact hT
theorem rt_TK_to {f : Int → Int} {n : Int} {c : Nat} {S B T : Nat → Int} (h : rt_TK f n c S B T) {k : Nat} (hk : k ≤ c) : B (k + 1) ≤ n ∧ S k ≤ B (k + 1) := by
  obtain ⟨h0, h1, h2, h3, h4, h5⟩ := h
  rcases Nat.lt_or_ge k c with g | g
  · obtain ⟨a, b, d, e⟩ := h1 k g
    have d1 := d.1
    have d2 := d.2.1
    exact ⟨d2, by omega⟩
  · rw [show k = c by omega, h3, h4]
    exact ⟨Int.le_refl _, Int.le_refl _⟩
theorem rt_KD_0 {f : Int → Int} {p e t : Int} (h : rt_KD f p e t) : t ≠ 0 := by
  rcases h with ⟨_, ⟨k, k1, _, k3, _⟩ | ⟨k1, _⟩⟩ | ⟨_, ⟨_, k1⟩ | ⟨_, k1⟩⟩ | ⟨_, _, ⟨k1, k2⟩ | ⟨_, k1⟩⟩ <;> omega
theorem rt_KD_u {f : Int → Int} {p e t u : Int} (a : rt_KD f p e t) (b : rt_KD f p e u) : t = u := by
  rcases a with ⟨a0, ⟨k, k1, k2, k3, k4⟩ | ⟨k1, k2⟩⟩ | ⟨a0, ak⟩ | ⟨a0, a1, ak⟩
  · have := (rt_kw b ⟨k1, k2⟩).mp k4
    omega
  · rcases b with ⟨b0, ⟨j, j1, j2, j3, j4⟩ | ⟨j1, _⟩⟩ | ⟨b0, _⟩ | ⟨b0, _⟩
    · exact absurd j4 (k2 j j1 j2)
    · omega
    · exfalso; omega
    · exact absurd a0 b0
  · rcases b with ⟨b0, _⟩ | ⟨b0, bk⟩ | ⟨b0, b1, _⟩
    · exfalso; omega
    · rcases ak with ⟨x, y⟩ | ⟨x, y⟩ <;> rcases bk with ⟨z, w⟩ | ⟨z, w⟩ <;> omega
    · exact absurd a0 b1
  · rcases b with ⟨b0, _⟩ | ⟨b0, _⟩ | ⟨b0, b1, bk⟩
    · exact absurd b0 a0
    · exact absurd b0 a1
    · rcases ak with ⟨x, y⟩ | ⟨x, y⟩ <;> rcases bk with ⟨z, w⟩ | ⟨z, w⟩
      · omega
      · exact absurd x z
      · exact absurd z x
      · omega
/-- how far a run of a sort goes -/
theorem rt_end (P : Int → Prop) {n : Int} : ∀ (d : Nat) (p : Int), p ≤ n → (n - p).toNat ≤ d → ∃ q : Int, p ≤ q ∧ q ≤ n ∧ (∀ x : Int, p ≤ x → x < q → P x) ∧ ¬ (q < n ∧ P q) := by
  intro d
  induction d with
  | zero => exact fun p h1 h2 => ⟨p, Int.le_refl _, h1, fun x a b => absurd b (by omega), fun z => absurd z.1 (by omega)⟩
  | succ d ih =>
    intro p h1 h2
    by_cases g : p < n ∧ P p
    · have g1 := g.1
      obtain ⟨q, q1, q2, q3, q4⟩ := ih (p + 1) (by omega) (by omega)
      refine ⟨q, by omega, q2, fun x a b => ?_, q4⟩
      rcases Int.lt_or_le p x with c | c
      · exact q3 x (by omega) b
      · rw [show x = p by omega]
        exact g.2
    · exact ⟨p, Int.le_refl _, h1, fun x a b => absurd b (by omega), g⟩
theorem rt_EN_ex {f : Int → Int} {n p : Int} (h : p < n) : ∃ e : Int, rt_EN f n p e := by
  by_cases a : rt_isL (f p)
  · obtain ⟨q, q1, q2, q3, q4⟩ := rt_end (fun x => rt_isL (f x)) (n := n) (n - p).toNat p (by omega) (Nat.le_refl _)
    have g : p < q := by
      rcases Int.lt_or_le p q with c | c
      · exact c
      · exact absurd ⟨by omega, by rw [show q = p by omega]; exact a⟩ q4
    exact ⟨q, g, q2, Or.inl ⟨a, q3, q4⟩⟩
  · by_cases b : rt_isD (f p)
    · obtain ⟨q, q1, q2, q3, q4⟩ := rt_end (fun x => rt_isD (f x)) (n := n) (n - p).toNat p (by omega) (Nat.le_refl _)
      have g : p < q := by
        rcases Int.lt_or_le p q with c | c
        · exact c
        · exact absurd ⟨by omega, by rw [show q = p by omega]; exact b⟩ q4
      exact ⟨q, g, q2, Or.inr (Or.inl ⟨b, q3, q4⟩)⟩
    · exact ⟨p + 1, by omega, by omega, Or.inr (Or.inr ⟨a, b, rfl⟩)⟩
theorem rt_KD_ex (f : Int → Int) (p e : Int) : ∃ t : Int, rt_KD f p e t := by
  by_cases a : rt_isL (f p)
  · by_cases w : ∃ k : Nat, 1 ≤ k ∧ k ≤ 11 ∧ rt_mt f p e (rt_W k)
    · obtain ⟨k, k1, k2, k3⟩ := w
      exact ⟨k, Or.inl ⟨a, Or.inl ⟨k, k1, k2, rfl, k3⟩⟩⟩
    · exact ⟨-1, Or.inl ⟨a, Or.inr ⟨rfl, fun k k1 k2 m => w ⟨k, k1, k2, m⟩⟩⟩⟩
  · by_cases b : rt_isD (f p)
    · by_cases g : e - p ≤ 4
      · exact ⟨12, Or.inr (Or.inl ⟨b, Or.inl ⟨g, rfl⟩⟩)⟩
      · exact ⟨-1, Or.inr (Or.inl ⟨b, Or.inr ⟨by omega, rfl⟩⟩)⟩
    · by_cases g : rt_isG (f p)
      · exact ⟨f p, Or.inr (Or.inr ⟨a, b, Or.inl ⟨g, rfl⟩⟩)⟩
      · exact ⟨-1, Or.inr (Or.inr ⟨a, b, Or.inr ⟨g, rfl⟩⟩)⟩
theorem rt_TK_x0 {f : Int → Int} {n : Int} {cnt : Nat} {S T : Nat → Int} {pl : Int} (h : rt_TP f n cnt S T pl) (hn : n ≤ pl) : ∃ (c : Nat) (S B T : Nat → Int), rt_TK f n c S B T := by
  obtain ⟨B, hB⟩ := rt_TP_x (S1 := fun k => if k = cnt then n else S k) (T1 := fun k => if k = cnt then 0 else T k) h hn (fun k hk => if_neg (by omega)) (fun k hk => if_neg (by omega)) (if_pos rfl) (if_pos rfl)
  exact ⟨cnt, _, B, _, hB⟩
theorem rt_TK_ex0 {f : Int → Int} {n : Int} : ∀ (d cnt : Nat) (S T : Nat → Int) (pl : Int), (n - pl).toNat ≤ d → rt_TP f n cnt S T pl → ∃ (c : Nat) (S B T : Nat → Int), rt_TK f n c S B T := by
  intro d
  induction d with
  | zero => exact fun cnt S T pl hd h => rt_TK_x0 h (by omega)
  | succ d ih =>
    intro cnt S T pl hd h
    rcases Int.lt_or_le pl n with hn | hn
    · by_cases hb : rt_isB (f pl)
      · exact ih cnt S T (pl + 1) (by omega) (rt_TP_b h hn hb)
      · obtain ⟨e, hE⟩ := rt_EN_ex (f := f) hn
        obtain ⟨t, hK⟩ := rt_KD_ex f pl e
        have e1 := hE.1
        refine ih (cnt + 1) (fun k => if k = cnt then pl else S k) (fun k => if k = cnt then t else T k) e (by omega) (rt_TP_t h hn hb (fun k hk => if_neg (by omega)) (fun k hk => if_neg (by omega)) (if_pos rfl) hE ?_)
        show rt_KD f pl e (if cnt = cnt then t else T cnt)
        rw [if_pos rfl]
        exact hK
    · exact rt_TK_x0 h hn
/-- every tape has its tokens -/
theorem rt_TK_ex (f : Int → Int) {n : Int} (h : 0 ≤ n) : ∃ (c : Nat) (S B T : Nat → Int), rt_TK f n c S B T := rt_TK_ex0 (n - 0).toNat 0 (fun _ => 0) (fun _ => 0) 0 (Nat.le_refl _) (rt_TP_0 h)
/-- and no others -/
theorem rt_TK_u {f : Int → Int} {n : Int} {c d : Nat} {S B T R C U : Nat → Int} (a : rt_TK f n c S B T) (b : rt_TK f n d R C U) : ∀ k : Nat, k ≤ c → U k = T k ∧ R k = S k := by
  obtain ⟨a0, a1, a2, a3, a4, a5⟩ := a
  obtain ⟨b0, b1, b2, b3, b4, b5⟩ := b
  have hB : ∀ k : Nat, k ≤ c → k ≤ d → C k = B k := by
    intro k
    induction k with
    | zero => intro _ _; rw [a0, b0]
    | succ k ih =>
      intro h1 h2
      obtain ⟨_, s1, e1, _⟩ := a1 k (by omega)
      obtain ⟨_, s2, e2, _⟩ := b1 k (by omega)
      rw [ih (by omega) (by omega)] at s2
      rw [rt_SK_u s2 s1] at e2
      exact rt_EN_u e2 e1
  have hS : ∀ k : Nat, k ≤ c → k ≤ d → R k = S k := by
    intro k h1 h2
    have sa : rt_SK f n (B k) (S k) := by
      rcases Nat.lt_or_ge k c with g | g
      · exact (a1 k g).2.1
      · rw [show k = c by omega]
        exact a2
    have sb : rt_SK f n (C k) (R k) := by
      rcases Nat.lt_or_ge k d with g | g
      · exact (b1 k g).2.1
      · rw [show k = d by omega]
        exact b2
    rw [hB k h1 h2] at sb
    exact rt_SK_u sb sa
  have hcd : c = d := by
    rcases Nat.lt_trichotomy c d with g | g | g
    · have h1 := hS c (Nat.le_refl _) (by omega)
      have h2 := (b1 c g).1
      exfalso; omega
    · exact g
    · have h1 := hS d (by omega) (Nat.le_refl _)
      have h2 := (a1 d g).1
      exfalso; omega
  intro k hk
  refine ⟨?_, hS k hk (by omega)⟩
  rcases Nat.lt_or_ge k c with g | g
  · obtain ⟨_, _, e1, k1⟩ := a1 k g
    obtain ⟨_, _, e2, k2⟩ := b1 k (by omega)
    rw [hS k hk (by omega)] at e2 k2
    rw [rt_EN_u e2 e1] at k2
    exact rt_KD_u k2 k1
  · rw [show k = c by omega, a5, hcd, b5]
theorem rt_TK_f {f g : Int → Int} {n : Int} {c : Nat} {S B T : Nat → Int} (hf : ∀ x : Int, 0 ≤ x → x < n → g x = f x) (h : rt_TK f n c S B T) : rt_TK g n c S B T := by
  obtain ⟨h0, h1, h2, h3, h4, h5⟩ := h
  have hB : ∀ k : Nat, k ≤ c → 0 ≤ B k := by
    intro k
    induction k with
    | zero => intro _; omega
    | succ k ih =>
      intro hk
      obtain ⟨_, s1, e1, _⟩ := h1 k (by omega)
      have i1 := ih (by omega)
      have i2 := s1.1
      have i3 := e1.1
      omega
  have hSK : ∀ (p q : Int), 0 ≤ p → rt_SK f n p q → rt_SK g n p q := by
    intro p q hp hs
    obtain ⟨a1, a2, a3, a4⟩ := hs
    refine ⟨a1, a2, fun x b1 b2 => ?_, fun z => a4 ⟨z.1, ?_⟩⟩
    · rw [hf x (by omega) (by omega)]
      exact a3 x b1 b2
    · rw [← hf q (by omega) z.1]
      exact z.2
  refine ⟨h0, fun k hk => ?_, hSK _ _ (hB c (Nat.le_refl _)) h2, h3, h4, h5⟩
  obtain ⟨a, s1, e1, k1⟩ := h1 k hk
  have b := hB k (by omega)
  have s0 := s1.1
  obtain ⟨e2, e3, e4⟩ := e1
  have ep : g (S k) = f (S k) := hf _ (by omega) a
  refine ⟨a, hSK _ _ b s1, ⟨e2, e3, ?_⟩, ?_⟩
  · rcases e4 with ⟨c1, c2, c3⟩ | ⟨c1, c2, c3⟩ | ⟨c1, c2, c3⟩
    · refine Or.inl ⟨by rw [ep]; exact c1, fun x x1 x2 => by rw [hf x (by omega) (by omega)]; exact c2 x x1 x2, fun z => c3 ⟨z.1, ?_⟩⟩
      rw [← hf _ (by omega) z.1]
      exact z.2
    · refine Or.inr (Or.inl ⟨by rw [ep]; exact c1, fun x x1 x2 => by rw [hf x (by omega) (by omega)]; exact c2 x x1 x2, fun z => c3 ⟨z.1, ?_⟩⟩)
      rw [← hf _ (by omega) z.1]
      exact z.2
    · exact Or.inr (Or.inr ⟨by rw [ep]; exact c1, by rw [ep]; exact c2, c3⟩)
  · have hm : ∀ j : Nat, (rt_mt g (S k) (B (k + 1)) (rt_W j) ↔ rt_mt f (S k) (B (k + 1)) (rt_W j)) := by
      intro j
      constructor
      · intro m
        have m1 := m.1
        exact ⟨m1, fun i hi => by rw [← hf (S k + i) (by omega) (by omega)]; exact m.2 i hi⟩
      · intro m
        have m1 := m.1
        exact ⟨m1, fun i hi => by rw [hf (S k + i) (by omega) (by omega)]; exact m.2 i hi⟩
    rcases k1 with ⟨d1, ⟨j, j1, j2, j3, j4⟩ | ⟨j1, j2⟩⟩ | d | d
    · exact Or.inl ⟨by rw [ep]; exact d1, Or.inl ⟨j, j1, j2, j3, (hm j).mpr j4⟩⟩
    · exact Or.inl ⟨by rw [ep]; exact d1, Or.inr ⟨j1, fun j a b z => j2 j a b ((hm j).mp z)⟩⟩
    · exact Or.inr (Or.inl (by rw [ep]; exact d))
    · exact Or.inr (Or.inr (by rw [ep]; exact d))
/-- where the reference is in the text -/
def rt_ms (c : Nat) (S B : Nat → Int) (M : fm_M) (s : rt_Z) : Prop := s.1 ≤ c ∧ (M.1 60 0 64).toInt = S s.1 ∧ (M.1 60 0 65).toInt = B (s.1 + 1) ∧ (M.1 60 0 67).toInt = s.2.1
theorem rt_ms_same {es : List Nat} {M u : fm_M} (s : fm_same es M u) (h : ∀ c ∈ ([60064, 60065, 60067] : List Nat), c ∉ es) {c : Nat} {S B : Nat → Int} {q : rt_Z} (hm : rt_ms c S B M q) : rt_ms c S B u q := by
  obtain ⟨m1, m2, m3, m4⟩ := hm
  refine ⟨m1, ?_, ?_, ?_⟩
  · rw [(s 60 0 64 (h _ (by decide))).1]
    exact m2
  · rw [(s 60 0 65 (h _ (by decide))).1]
    exact m3
  · rw [(s 60 0 67 (h _ (by decide))).1]
    exact m4
theorem rt_mto {M : fm_M} {c : Nat} {S B T : Nat → Int} {s : rt_Z} (hT : rt_TM M c S B T) (hm : rt_ms c S B M s) : (M.1 60 0 65).toInt ≤ (M.1 60 0 63).toInt := by
  rw [hm.2.2.1]
  exact (rt_TK_to hT hm.1).1
theorem rt_nx {f : Int → Int} {n : Int} {c : Nat} {S B T : Nat → Int} (hT : rt_TK f n c S B T) {k : Nat} (hk : k ≤ c) {q e : Int} (h1 : rt_SK f n (B k) q) (h2 : (q < n ∧ rt_EN f n q e) ∨ (q = n ∧ e = n)) : q = S k ∧ e = B (k + 1) := by
  obtain ⟨t0, t1, t2, t3, t4, t5⟩ := hT
  rcases Nat.lt_or_ge k c with g | g
  · obtain ⟨a, s1, e1, _⟩ := t1 k g
    have z := rt_SK_u h1 s1
    rcases h2 with ⟨_, h2⟩ | ⟨h2, _⟩
    · rw [z] at h2
      exact ⟨z, rt_EN_u h2 e1⟩
    · exfalso; omega
  · have ek : k = c := by omega
    rw [ek] at h1 ⊢
    have z := rt_SK_u h1 t2
    rcases h2 with ⟨h2, _⟩ | ⟨h2, h3⟩
    · exfalso; omega
    · exact ⟨z, by omega⟩
abbrev rt_NX (M u : fm_M) : Prop := rt_SK (rt_mb M (M.1 60 0 62).toInt) (M.1 60 0 63).toInt (M.1 60 0 65).toInt (u.1 60 0 64).toInt ∧ (((u.1 60 0 64).toInt < (M.1 60 0 63).toInt ∧ rt_EN (rt_mb M (M.1 60 0 62).toInt) (M.1 60 0 63).toInt (u.1 60 0 64).toInt (u.1 60 0 65).toInt) ∨ ((u.1 60 0 64).toInt = (M.1 60 0 63).toInt ∧ (u.1 60 0 65).toInt = (M.1 60 0 63).toInt))
theorem rt_ms_c {f : Int → Int} {n : Int} {c : Nat} {S B T : Nat → Int} (hT : rt_TK f n c S B T) {k : Nat} (hk : k ≤ c) (z : T k = 0) : k = c := by
  rcases Nat.lt_or_ge k c with g | g
  · exact absurd z (rt_KD_0 (hT.2.1 k g).2.2.2)
  · omega
theorem rt_ms_next {M u : fm_M} {c : Nat} {S B T : Nat → Int} {s : rt_Z} (hT : rt_TM M c S B T) (hm : rt_ms c S B M s) (hn : rt_NX M u) (hf : u.1 60 0 67 = M.1 60 0 67) : rt_ms c S B u (rt_adv T s) := by
  obtain ⟨m1, m2, m3, m4⟩ := hm
  obtain ⟨h1, h2⟩ := hn
  have h0 : T c = 0 := hT.2.2.2.2.2
  rw [m3] at h1
  unfold rt_adv
  by_cases z : T s.1 = 0
  · have e : s.1 = c := rt_ms_c hT m1 z
    have b4 : B (c + 1) = (M.1 60 0 63).toInt := hT.2.2.2.2.1
    have b3 : S c = (M.1 60 0 63).toInt := hT.2.2.2.1
    rw [e, b4] at h1
    have a1 := h1.1
    have a2 := h1.2.1
    rw [if_pos z]
    refine ⟨m1, ?_, ?_, ?_⟩
    · show (u.1 60 0 64).toInt = S s.1
      rw [e, b3]
      omega
    · show (u.1 60 0 65).toInt = B (s.1 + 1)
      rw [e, b4]
      rcases h2 with ⟨h2, _⟩ | ⟨_, h2⟩
      · exfalso; omega
      · exact h2
    · show (u.1 60 0 67).toInt = s.2.1
      rw [hf]
      exact m4
  · have g : s.1 < c := by
      rcases Nat.lt_or_ge s.1 c with g | g
      · exact g
      · exact absurd (by rw [show s.1 = c by omega]; exact h0) z
    obtain ⟨z1, z2⟩ := rt_nx hT (k := s.1 + 1) (by omega) h1 h2
    rw [if_neg z]
    refine ⟨?_, z1, z2, ?_⟩
    · show s.1 + 1 ≤ c
      omega
    · show (u.1 60 0 67).toInt = s.2.1
      rw [hf]
      exact m4
theorem rt_ms_first {M u : fm_M} {c : Nat} {S B T : Nat → Int} (hT : rt_TM M c S B T) (h0 : (M.1 60 0 65).toInt = 0) (hn : rt_NX M u) (hf : (u.1 60 0 67).toInt = -1) : rt_ms c S B u (0, -1, []) := by
  obtain ⟨h1, h2⟩ := hn
  have b0 : B 0 = 0 := hT.1
  rw [h0, ← b0] at h1
  obtain ⟨z1, z2⟩ := rt_nx hT (k := 0) (Nat.zero_le c) h1 h2
  exact ⟨Nat.zero_le c, z1, z2, hf⟩
theorem rt_ms_fail {M u : fm_M} {c : Nat} {S B : Nat → Int} {s : rt_Z} (hm : rt_ms c S B M s) (h : (u.1 60 0 67).toInt = if (M.1 60 0 67).toInt < 0 then (M.1 60 0 64).toInt else (M.1 60 0 67).toInt) (e1 : u.1 60 0 64 = M.1 60 0 64) (e2 : u.1 60 0 65 = M.1 60 0 65) : rt_ms c S B u (rt_fail S s) := by
  obtain ⟨m1, m2, m3, m4⟩ := hm
  refine ⟨m1, ?_, ?_, ?_⟩
  · show (u.1 60 0 64).toInt = S s.1
    rw [e1]
    exact m2
  · show (u.1 60 0 65).toInt = B (s.1 + 1)
    rw [e2]
    exact m3
  · show (u.1 60 0 67).toInt = if s.2.1 < 0 then S s.1 else s.2.1
    rw [h, m4, m2]
theorem rt_fail_0 {S : Nat → Int} {s : rt_Z} (h : 0 ≤ S s.1) : 0 ≤ (rt_fail S s).2.1 := by
  show 0 ≤ (if s.2.1 < 0 then S s.1 else s.2.1)
  by_cases g : s.2.1 < 0
  · rw [if_pos g]
    exact h
  · rw [if_neg g]
    omega
theorem rt_ms_f0 {M : fm_M} {c : Nat} {S B : Nat → Int} {s : rt_Z} (hm : rt_ms c S B M s) (h : 0 ≤ (M.1 60 0 64).toInt) {P : Prop} : (rt_fail S s).2.1 < 0 → P := by
  intro z
  have g := rt_fail_0 (S := S) (s := s) (by rw [← hm.2.1]; exact h)
  exact absurd z (by omega)
/-- a word's number among the tokens -/
def rt_cd (N : Nat) (f : Nat → Int32) (t : Int) : Prop := t ≠ 0 ∧ (∀ j : Nat, j < N → rt_ch (f j) = f j) ∧ ∀ (g : Int → Int) (n p e k : Int), rt_EN g n p e → rt_KD g p e k → ((e - p = N ∧ ∀ j : Nat, j < N → g (p + j) = (f j).toInt) ↔ k = t)
theorem rt_W_ch : ∀ k : Fin 12, ∀ j : Fin 8, rt_ch ((rt_W k.1).getD j.1 0) = (rt_W k.1).getD j.1 0 := by decide +kernel
theorem rt_W_len : ∀ k : Fin 12, (rt_W k.1).length ≤ 8 := by decide +kernel
theorem rt_cdw (k : Nat) (hk : 1 ≤ k ∧ k ≤ 11) : rt_cd (rt_W k).length (fun j => (rt_W k).getD j 0) k := ⟨by omega, fun j hj => rt_W_ch ⟨k, by omega⟩ ⟨j, Nat.lt_of_lt_of_le hj (rt_W_len ⟨k, by omega⟩)⟩, fun g n p e t hE hK => rt_kw hK hk⟩
theorem rt_cdg (g : Int32) (hg : rt_isG g.toInt) (hc : rt_ch g = g) : rt_cd 1 (fun j => [g].getD j 0) g.toInt := by
  refine ⟨by omega, fun j hj => ?_, fun f n p e t hE hK => rt_kg hE hK hg⟩
  rw [show j = 0 by omega]
  exact hc
theorem rt_is {M : fm_M} {c : Nat} {S B T : Nat → Int} {s : rt_Z} {N : Nat} {f : Nat → Int32} {t : Int} (hT : rt_TM M c S B T) (hm : rt_ms c S B M s) (hc : rt_cd N f t) : ((M.1 60 0 64).toInt < (M.1 60 0 63).toInt ∧ (M.1 60 0 65).toInt - (M.1 60 0 64).toInt = N ∧ ∀ j : Nat, j < N → rt_mb M (M.1 60 0 62).toInt ((M.1 60 0 64).toInt + j) = (f j).toInt) ↔ T s.1 = t := by
  obtain ⟨m1, m2, m3, m4⟩ := hm
  obtain ⟨c1, c2, c3⟩ := hc
  rw [m2, m3]
  rcases Nat.lt_or_ge s.1 c with g | g
  · obtain ⟨a, _, e1, k1⟩ := hT.2.1 s.1 g
    have z := c3 _ _ _ _ _ e1 k1
    exact ⟨fun h => z.mp h.2, fun h => ⟨a, z.mpr h⟩⟩
  · have e : s.1 = c := by omega
    have b3 : S c = (M.1 60 0 63).toInt := hT.2.2.2.1
    have b5 : T c = 0 := hT.2.2.2.2.2
    constructor
    · intro h
      have h1 := h.1
      rw [e, b3] at h1
      exact absurd h1 (by omega)
    · intro h
      rw [e, b5] at h
      exact absurd h.symm c1
theorem rt_ms_lt {M : fm_M} {c : Nat} {S B T : Nat → Int} {s : rt_Z} (hT : rt_TM M c S B T) (hm : rt_ms c S B M s) (h : (M.1 60 0 64).toInt < (M.1 60 0 63).toInt) : s.1 < c := by
  rcases Nat.lt_or_ge s.1 c with g | g
  · exact g
  · have e : s.1 = c := by have := hm.1; omega
    have b3 : S c = (M.1 60 0 63).toInt := hT.2.2.2.1
    rw [hm.2.1, e, b3] at h
    exact absurd h (by omega)
theorem rt_isd {M : fm_M} {c : Nat} {S B T : Nat → Int} {s : rt_Z} (hT : rt_TM M c S B T) (hm : rt_ms c S B M s) (h : (M.1 60 0 64).toInt < (M.1 60 0 63).toInt ∧ rt_isD (rt_mb M (M.1 60 0 62).toInt (M.1 60 0 64).toInt)) : ((M.1 60 0 65).toInt - (M.1 60 0 64).toInt ≤ 4 → T s.1 = 12) ∧ (4 < (M.1 60 0 65).toInt - (M.1 60 0 64).toInt → T s.1 = -1) := by
  have g := rt_ms_lt hT hm h.1
  obtain ⟨h1, h2⟩ := h
  obtain ⟨m1, m2, m3, m4⟩ := hm
  rw [m2] at h2
  rw [m2, m3]
  obtain ⟨a, _, e1, k1⟩ := hT.2.1 s.1 g
  rcases k1 with ⟨d1, _⟩ | ⟨_, ⟨d1, d2⟩ | ⟨d1, d2⟩⟩ | ⟨_, d1, _⟩
  · exfalso; omega
  · exact ⟨fun _ => d2, fun z => absurd z (by omega)⟩
  · exact ⟨fun z => absurd z (by omega), fun _ => d2⟩
  · exact absurd h2 d1
theorem rt_isn {M : fm_M} {c : Nat} {S B T : Nat → Int} {s : rt_Z} (hT : rt_TM M c S B T) (hm : rt_ms c S B M s) (h : ¬ ((M.1 60 0 64).toInt < (M.1 60 0 63).toInt ∧ rt_isD (rt_mb M (M.1 60 0 62).toInt (M.1 60 0 64).toInt))) : ¬ T s.1 = 12 := by
  intro z
  obtain ⟨m1, m2, m3, m4⟩ := hm
  rcases Nat.lt_or_ge s.1 c with g | g
  · obtain ⟨a, _, e1, k1⟩ := hT.2.1 s.1 g
    rw [m2] at h
    exact h ⟨a, ((rt_kn k1).mp z).1⟩
  · have e : s.1 = c := by omega
    have b5 : T c = 0 := hT.2.2.2.2.2
    rw [e, b5] at z
    exact absurd z (by decide)
theorem rt_iend {M : fm_M} {c : Nat} {S B T : Nat → Int} {s : rt_Z} (hT : rt_TM M c S B T) (hm : rt_ms c S B M s) : (M.1 60 0 63).toInt ≤ (M.1 60 0 64).toInt ↔ T s.1 = 0 := by
  have b3 : S c = (M.1 60 0 63).toInt := hT.2.2.2.1
  have b5 : T c = 0 := hT.2.2.2.2.2
  constructor
  · intro h
    rcases Nat.lt_or_ge s.1 c with g | g
    · have a := (hT.2.1 s.1 g).1
      rw [hm.2.1] at h
      exact absurd h (by omega)
    · rw [show s.1 = c by have := hm.1; omega]
      exact b5
  · intro z
    rw [hm.2.1, rt_ms_c hT hm.1 z, b3]
    exact Int.le_refl _
theorem rt_need_n {T S : Nat → Int} {k : Int} {s : rt_Z} (h : ¬ (s.2.1 < 0 ∧ T s.1 = k)) : rt_need T S k s = rt_fail S s := if_neg h
theorem rt_need_y {T S : Nat → Int} {k : Int} {s : rt_Z} (h : s.2.1 < 0 ∧ T s.1 = k) : rt_need T S k s = rt_adv T s := if_pos h
theorem rt_need_0 {T S : Nat → Int} {s : rt_Z} (h : T s.1 = 0) : (rt_need T S 0 s).2.1 = s.2.1 := by
  by_cases g : s.2.1 < 0
  · rw [rt_need_y ⟨g, h⟩]
    rfl
  · rw [rt_need_n (fun z => g z.1)]
    show (if s.2.1 < 0 then S s.1 else s.2.1) = s.2.1
    rw [if_neg g]
theorem rt_b01 {r : Int32} {C : Prop} (h : 0 ≤ r.toInt ∧ r.toInt ≤ 1) (h1 : r.toInt = 1 → C) (h0 : r.toInt = 0 → ¬ C) : (r = 1 ∧ C) ∨ (r = 0 ∧ ¬ C) := by
  rcases (show r.toInt = 1 ∨ r.toInt = 0 by omega) with g | g
  · exact Or.inl ⟨Int32.toInt_inj.mp (g.trans rfl), h1 g⟩
  · exact Or.inr ⟨Int32.toInt_inj.mp (g.trans rfl), h0 g⟩
theorem rt_cd_1 : rt_cd 8 (fun j => ([115, 116, 114, 101, 110, 103, 116, 104] : List Int32).getD j 0) 1 := rt_cdw 1 (by decide)
theorem rt_cd_2 : rt_cd 4 (fun j => ([104, 117, 114, 116] : List Int32).getD j 0) 2 := rt_cdw 2 (by decide)
theorem rt_cd_3 : rt_cd 5 (fun j => ([115, 107, 105, 108, 108] : List Int32).getD j 0) 3 := rt_cdw 3 (by decide)
theorem rt_cd_4 : rt_cd 4 (fun j => ([104, 111, 117, 114] : List Int32).getD j 0) 4 := rt_cdw 4 (by decide)
theorem rt_cd_5 : rt_cd 4 (fun j => ([102, 117, 101, 108] : List Int32).getD j 0) 5 := rt_cdw 5 (by decide)
theorem rt_cd_6 : rt_cd 3 (fun j => ([102, 97, 114] : List Int32).getD j 0) 6 := rt_cdw 6 (by decide)
theorem rt_cd_7 : rt_cd 4 (fun j => ([116, 97, 107, 101] : List Int32).getD j 0) 7 := rt_cdw 7 (by decide)
theorem rt_cd_8 : rt_cd 2 (fun j => ([103, 111] : List Int32).getD j 0) 8 := rt_cdw 8 (by decide)
theorem rt_cd_9 : rt_cd 2 (fun j => ([111, 114] : List Int32).getD j 0) 9 := rt_cdw 9 (by decide)
theorem rt_cd_10 : rt_cd 3 (fun j => ([97, 110, 100] : List Int32).getD j 0) 10 := rt_cdw 10 (by decide)
theorem rt_cd_11 : rt_cd 3 (fun j => ([110, 111, 116] : List Int32).getD j 0) 11 := rt_cdw 11 (by decide)
theorem rt_cd_40 : rt_cd 1 (fun j => ([40] : List Int32).getD j 0) 40 := rt_cdg 40 (by decide +kernel) (by decide +kernel)
theorem rt_cd_41 : rt_cd 1 (fun j => ([41] : List Int32).getD j 0) 41 := rt_cdg 41 (by decide +kernel) (by decide +kernel)
theorem rt_cd_42 : rt_cd 1 (fun j => ([42] : List Int32).getD j 0) 42 := rt_cdg 42 (by decide +kernel) (by decide +kernel)
theorem rt_cd_43 : rt_cd 1 (fun j => ([43] : List Int32).getD j 0) 43 := rt_cdg 43 (by decide +kernel) (by decide +kernel)
theorem rt_cd_45 : rt_cd 1 (fun j => ([45] : List Int32).getD j 0) 45 := rt_cdg 45 (by decide +kernel) (by decide +kernel)
theorem rt_cd_59 : rt_cd 1 (fun j => ([59] : List Int32).getD j 0) 59 := rt_cdg 59 (by decide +kernel) (by decide +kernel)
theorem rt_cd_60 : rt_cd 1 (fun j => ([60] : List Int32).getD j 0) 60 := rt_cdg 60 (by decide +kernel) (by decide +kernel)
theorem rt_cd_61 : rt_cd 1 (fun j => ([61] : List Int32).getD j 0) 61 := rt_cdg 61 (by decide +kernel) (by decide +kernel)
theorem rt_need_c {T U S R : Nat → Int} {V W : Nat → Int32} {c : Nat} (hT : ∀ k : Nat, k ≤ c → U k = T k ∧ R k = S k ∧ (T k = 12 → W k = V k)) (k : Int) (s : rt_Z) (hs : s.1 ≤ c) : rt_need U R k s = rt_need T S k s := by
  obtain ⟨eT, eS, _⟩ := hT s.1 hs
  unfold rt_need rt_adv rt_fail
  rw [eT, eS]
theorem rt_RT_c {T U S R : Nat → Int} {V W : Nat → Int32} {c : Nat} (h0 : T c = 0) (hT : ∀ k : Nat, k ≤ c → U k = T k ∧ R k = S k ∧ (T k = 12 → W k = V k)) {r : Int} {d : List Int32} {n : Nat} (h : rt_RT U R W r d n) : rt_RT T S V r d n := by
  obtain ⟨s2, s5, h1, h2, h3, h4, h5⟩ := h
  have n1 := rt_gr_n (S := S) (k := 7) (s := (0, -1, [])) h0 (Nat.zero_le c)
  rw [rt_need_c hT 7 (0, -1, []) (Nat.zero_le c)] at h1
  have p1 := rt_PS_c h0 hT n1.2.1 h1
  have r1 := rt_PS_r p1 h0 n1.2.1
  have n2 := rt_gr_n (S := S) (k := 59) (s := s2) h0 r1.2.1
  have n3 := rt_gr_n (S := S) (k := 8) (s := rt_need T S 59 s2) h0 n2.2.1
  rw [rt_need_c hT 59 s2 r1.2.1, rt_need_c hT 8 (rt_need T S 59 s2) n2.2.1] at h2
  have p2 := rt_PS_c h0 hT n3.2.1 h2
  have r2 := rt_PS_r p2 h0 n3.2.1
  have n4 := rt_gr_n (S := S) (k := 59) (s := s5) h0 r2.2.1
  rw [rt_need_c hT 59 s5 r2.2.1, rt_need_c hT 0 (rt_need T S 59 s5) n4.2.1] at h3
  exact ⟨s2, s5, p1, p2, h3, h4, h5⟩
theorem rt_nm_f {f g : Int → Int} {p : Int} {n : Nat} (h : ∀ i : Nat, i < n → g (p + i) = f (p + i)) : rt_num g p n = rt_num f p n := by
  induction n with
  | zero => rfl
  | succ n ih =>
    show 10 * rt_num g p n + Int32.ofInt (g (p + n)) - 48 = 10 * rt_num f p n + Int32.ofInt (f (p + n)) - 48
    rw [ih (fun i hi => h i (Nat.lt_succ_of_lt hi)), h n (Nat.lt_succ_self n)]
theorem rt_TK_B {f : Int → Int} {n : Int} {c : Nat} {S B T : Nat → Int} (h : rt_TK f n c S B T) {k : Nat} (hk : k ≤ c) : 0 ≤ B k := by
  obtain ⟨h0, h1, _⟩ := h
  induction k with
  | zero => omega
  | succ k ih =>
    obtain ⟨_, s1, e1, _⟩ := h1 k (by omega)
    have i1 := ih (by omega)
    have i2 := s1.1
    have i3 := e1.1
    omega
/-- the same bytes: the same answer, the same steps -/
theorem rt_RT_tk {f g : Int → Int} {n : Int} {c d : Nat} {S B T R C U : Nat → Int} {V W : Nat → Int32} {r q : Int} {x y : List Int32} {i j : Nat} (hf : ∀ x : Int, 0 ≤ x → x < n → g x = f x) (a : rt_TK f n c S B T) (hV : rt_NV f c S B T V) (b : rt_TK g n d R C U) (hW : rt_NV g d R C U W) (ha : rt_RT T S V r x i) (hb : rt_RT U R W q y j) : r = q ∧ x = y ∧ i = j := by
  have b2 := rt_TK_f (fun x h1 h2 => (hf x h1 h2).symm) b
  have hu := rt_TK_u a b2
  have hc : c = d := by
    have h1 := hu c (Nat.le_refl _)
    have hv := rt_TK_u b2 a
    rcases Nat.lt_trichotomy c d with z | z | z
    · exact absurd (by rw [h1.1]; exact a.2.2.2.2.2) (rt_KD_0 (b2.2.1 c z).2.2.2)
    · exact z
    · have h2 := hv d (Nat.le_refl _)
      exact absurd (by rw [h2.1]; exact b2.2.2.2.2.2) (rt_KD_0 (a.2.1 d z).2.2.2)
  refine rt_RT_u ha (rt_RT_c a.2.2.2.2.2 (fun k hk => ⟨(hu k hk).1, (hu k hk).2, fun h12 => ?_⟩) hb)
  have kc : k < c := by
    rcases Nat.lt_or_ge k c with z | z
    · exact z
    · exfalso
      rw [show k = c by omega, a.2.2.2.2.2] at h12
      omega
  rw [hV k kc h12, hW k (by omega) (by rw [(hu k hk).1]; exact h12), (hu k hk).2]
  have eB : C (k + 1) = B (k + 1) := by
    have e1 := (a.2.1 k kc).2.2.1
    have e2 := (b2.2.1 k (by omega)).2.2.1
    rw [(hu k hk).2] at e2
    exact rt_EN_u e2 e1
  rw [eB]
  have e1 := (a.2.1 k kc).2.2.1
  have e3 := e1.2.1
  have e4 := (a.2.1 k kc).2.1.1
  have b0 : 0 ≤ B k := rt_TK_B a (by omega)
  exact rt_nm_f (fun i hi => hf _ (by omega) (by omega))
theorem rt_VL_p {E : Nat → Int32} {D : Nat} {T : Nat → Int} {s r : rt_Z} {v : Int32} (h : rt_VL E D (rt_adv T s) r v) : rt_VL E D s (rt_adv T r) v := fun z => h z
theorem rt_nm_b {f : Int → Int} {p : Int} : ∀ n : Nat, n ≤ 4 → (∀ i : Nat, i < n → rt_isD (f (p + i))) → 0 ≤ (rt_num f p n).toInt ∧ (rt_num f p n).toInt < 10 ^ n := by
  intro n
  induction n with
  | zero => exact fun _ _ => ⟨show (0 : Int) ≤ (0 : Int32).toInt by decide, show (0 : Int32).toInt < (10 : Int) ^ 0 by decide⟩
  | succ n ih =>
    intro hn h
    obtain ⟨a, b⟩ := ih (by omega) (fun i hi => h i (Nat.lt_succ_of_lt hi))
    have g := h n (Nat.lt_succ_self n)
    have p3 : (10 : Int) ^ n ≤ 1000 := by
      rcases (show n = 0 ∨ n = 1 ∨ n = 2 ∨ n = 3 by omega) with rfl | rfl | rfl | rfl <;> decide
    have eo : (Int32.ofInt (f (p + n))).toInt = f (p + n) := by
      rw [Int32.toInt_ofInt_of_le (by omega) (by omega)]
    have e1 : (10 * rt_num f p n).toInt = 10 * (rt_num f p n).toInt := by
      rw [zi_mul _ _ (by rw [show (10 : Int32).toInt = 10 from rfl]; omega) (by rw [show (10 : Int32).toInt = 10 from rfl]; omega)]
      rfl
    have e2 : (10 * rt_num f p n + Int32.ofInt (f (p + n))).toInt = 10 * (rt_num f p n).toInt + f (p + n) := by
      rw [zi_add _ _ (by rw [e1, eo]; omega) (by rw [e1, eo]; omega), e1, eo]
    have e3 : (rt_num f p (n + 1)).toInt = 10 * (rt_num f p n).toInt + f (p + n) - 48 := by
      show (10 * rt_num f p n + Int32.ofInt (f (p + n)) - 48).toInt = _
      rw [zi_sub _ _ (by rw [e2, show (48 : Int32).toInt = 48 from rfl]; omega) (by rw [e2, show (48 : Int32).toInt = 48 from rfl]; omega), e2]
      rfl
    rw [e3, show (10 : Int) ^ (n + 1) = 10 * 10 ^ n by rw [Int.pow_succ, Int.mul_comm]]
    omega
theorem rt_NVs {es : List Nat} {M u : fm_M} (s : fm_same es M u) (h : ∀ c ∈ ([60062, 60063, 151000, 153000] : List Nat), c ∉ es) {c : Nat} {S B T : Nat → Int} {V : Nat → Int32} (hn : rt_NV (rt_mb M (M.1 60 0 62).toInt) c S B T V) : rt_NV (rt_mb u (u.1 60 0 62).toInt) c S B T V := by
  rw [(rt_mbs s h).1]
  exact hn
theorem rt_v1_t {T : Nat → Int} {V : Nat → Int32} {k : Nat} (h : 0 < T k ∧ T k ≤ 6) : (rt_v1 T V k).toInt = -(T k) := by
  unfold rt_v1
  rw [if_neg (by omega), Int32.toInt_ofInt_of_le (by omega) (by omega)]
theorem rt_EN_d {f : Int → Int} {n p e : Int} (h : rt_EN f n p e) (hd : rt_isD (f p)) : ∀ x : Int, p ≤ x → x < e → rt_isD (f x) := by
  obtain ⟨_, _, c | c | c⟩ := h
  · exfalso
    have c1 := c.1
    omega
  · exact c.2.1
  · exact absurd hd c.2.1
theorem rt_isr {M : fm_M} {c : Nat} {S B T : Nat → Int} {s : rt_Z} (hT : rt_TM M c S B T) (hm : rt_ms c S B M s) (h : (M.1 60 0 64).toInt < (M.1 60 0 63).toInt ∧ rt_isD (rt_mb M (M.1 60 0 62).toInt (M.1 60 0 64).toInt)) (V : Nat → Int32) (hN : rt_NV (rt_mb M (M.1 60 0 62).toInt) c S B T V) (h12 : T s.1 = 12) : V s.1 = rt_num (rt_mb M (M.1 60 0 62).toInt) (M.1 60 0 64).toInt ((M.1 60 0 65).toInt - (M.1 60 0 64).toInt).toNat ∧ 0 ≤ (V s.1).toInt := by
  have g := rt_ms_lt hT hm h.1
  obtain ⟨m1, m2, m3, m4⟩ := hm
  have e := hN s.1 g h12
  obtain ⟨a, _, e1, k1⟩ := hT.2.1 s.1 g
  obtain ⟨d1, d2⟩ := (rt_kn k1).mp h12
  have e2 := e1.1
  rw [m2, m3]
  refine ⟨e, ?_⟩
  rw [e]
  exact (rt_nm_b _ (by omega) (fun i hi => rt_EN_d e1 d1 _ (by omega) (by omega))).1
theorem rt_need_lt {T S : Nat → Int} {k : Int} {s : rt_Z} (h : (rt_need T S k s).2.1 < 0) : s.2.1 < 0 := by
  by_cases z : s.2.1 < 0
  · exact z
  · rw [rt_need_n (fun y => z y.1)] at h
    have h : (if s.2.1 < 0 then S s.1 else s.2.1) < 0 := h
    rw [if_neg z] at h
    exact h
theorem rt_PS_lt {T S : Nat → Int} {V : Nat → Int32} {n : Nat} {o : Int} {s r : rt_Z} (hp : rt_PS T S V n o s r) (hn : n ≤ 11) (h : r.2.1 < 0) : s.2.1 < 0 := by
  rcases Int.lt_or_le s.2.1 0 with z | z
  · exact z
  · have e := rt_PS_u hp (rt_PS_id (T := T) (S := S) (V := V) (o := o) z hn)
    rw [e] at h
    exact h
/-- what take and go say, by the steps -/
theorem rt_VL_end {T S : Nat → Int} {V : Nat → Int32} {E : Nat → Int32} {s2 s5 : rt_Z} {t g : Int32} (h5 : rt_PS T S V 0 0 (rt_need T S 8 (rt_need T S 59 s2)) s5) (v2 : rt_VL E 31 (0, -1, []) s2 t) (v5 : rt_VL E 31 (rt_need T S 8 (rt_need T S 59 s2)) s5 g) (h : (rt_need T S 0 (rt_need T S 59 s5)).2.1 < 0) : rt_run E (s5.2.2.take s2.2.2.length) [] = [t] ∧ rt_run E (s5.2.2.drop s2.2.2.length) [] = [g] := by
  have a5 := rt_need_lt (rt_need_lt h)
  have a2 := rt_need_lt (rt_need_lt (rt_PS_lt h5 (by decide) a5))
  obtain ⟨d2, e2, f2⟩ := v2 a2
  obtain ⟨d5, e5, f5⟩ := v5 a5
  rw [rt_need_cd, rt_need_cd] at e5
  have e2 : s2.2.2 = d2 := e2
  rw [e5, List.take_left, List.drop_left]
  exact ⟨by rw [e2]; exact f2 [] (by decide), f5 [] (by decide)⟩
