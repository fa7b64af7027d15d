/-- reading a text by its tokens, with the steps that are made: T their kinds, S their places, V what stands there; a state: the token's number, the fault's place or -1, the steps -/
abbrev rt_Z : Type := Nat × Int × List Int32
def rt_em (c : Int32) (s : rt_Z) : rt_Z := (s.1, s.2.1, s.2.2 ++ [c])
def rt_v1 (T : Nat → Int) (V : Nat → Int32) (k : Nat) : Int32 := if T k = 12 then V k else Int32.ofInt (-(T k))
def rt_adv (T : Nat → Int) (s : rt_Z) : rt_Z := (if T s.1 = 0 then s.1 else s.1 + 1, s.2)
def rt_fail (S : Nat → Int) (s : rt_Z) : rt_Z := (s.1, if s.2.1 < 0 then S s.1 else s.2.1, s.2.2)
def rt_need (T S : Nat → Int) (c : Int) (s : rt_Z) : rt_Z := if s.2.1 < 0 ∧ T s.1 = c then rt_adv T s else rt_fail S s
def rt_pst (T S : Nat → Int) (V : Nat → Int32) (P : Nat → Int → rt_Z → Option rt_Z) (nt : Nat) (o : Int) (s : rt_Z) : Option rt_Z := match nt with
  | 0 => (P 2 o s).bind (P 1 o)
  | 1 => if s.2.1 < 0 ∧ T s.1 = 9 then (P 2 o (rt_adv T s)).bind (fun z => P 1 o (rt_em (-11) z)) else some s
  | 2 => (P 4 o s).bind (P 3 o)
  | 3 => if s.2.1 < 0 ∧ T s.1 = 10 then (P 4 o (rt_adv T s)).bind (fun z => P 3 o (rt_em (-12) z)) else some s
  | 4 => if s.2.1 < 0 ∧ T s.1 = 11 then (if 5 ≤ o then some (rt_fail S s) else (P 4 (o + 1) (rt_adv T s)).bind (fun z => some (rt_em (-13) z))) else P 5 o s
  | 5 => (P 6 o s).bind (P 11 o)
  | 6 => (P 8 o s).bind (P 7 o)
  | 7 => if s.2.1 < 0 ∧ (T s.1 = 43 ∨ T s.1 = 45) then (P 8 o (rt_adv T s)).bind (fun z => P 7 o (rt_em (if T s.1 = 43 then -16 else -17) z)) else some s
  | 8 => (P 10 o s).bind (P 9 o)
  | 9 => if s.2.1 < 0 ∧ T s.1 = 42 then (P 10 o (rt_adv T s)).bind (fun z => P 9 o (rt_em (-18) z)) else some s
  | 10 => if s.2.1 < 0 ∧ (T s.1 = 12 ∨ (0 < T s.1 ∧ T s.1 ≤ 6)) then some (rt_adv T (rt_em (rt_v1 T V s.1) s)) else if (s.2.1 < 0 ∧ T s.1 = 45) ∧ o < 5 then (P 10 (o + 1) (rt_adv T s)).bind (fun z => some (rt_em (-19) z)) else if (s.2.1 < 0 ∧ T s.1 = 40) ∧ o < 5 then (P 0 (o + 1) (rt_adv T s)).bind (P 12 o) else some (rt_fail S s)
  | 11 => if s.2.1 < 0 ∧ (T s.1 = 60 ∨ T s.1 = 61) then (P 6 o (rt_adv T s)).bind (fun z => some (rt_em (if T s.1 = 60 then -14 else -15) z)) else some s
  | _ => some (rt_need T S 41 s)
def rt_ps (T S : Nat → Int) (V : Nat → Int32) (F : Nat) : Nat → Int → rt_Z → Option rt_Z := match F with
  | 0 => fun _ _ _ => none
  | F + 1 => rt_pst T S V (rt_ps T S V F)
/-- a reading by more steps of a kind that agrees where it ends -/
theorem rt_bu {P Q : Nat → Int → rt_Z → Option rt_Z} (h : ∀ (n : Nat) (o : Int) (s r : rt_Z), P n o s = some r → Q n o s = some r) {a : Nat} {o : Int} {s r : rt_Z} {f g : rt_Z → Option rt_Z} (hf : ∀ z : rt_Z, f z = some r → g z = some r) (hp : (P a o s).bind f = some r) : (Q a o s).bind g = some r := by
  obtain ⟨s1, h1, h2⟩ := Option.bind_eq_some_iff.mp hp
  exact Option.bind_eq_some_iff.mpr ⟨s1, h _ _ _ _ h1, hf _ h2⟩
theorem rt_iu {c : Prop} [Decidable c] {a b a' b' : Option rt_Z} {r : rt_Z} (ha : a = some r → a' = some r) (hb : b = some r → b' = some r) (h : (if c then a else b) = some r) : (if c then a' else b') = some r := by
  by_cases g : c
  · rw [if_pos g] at h ⊢
    exact ha h
  · rw [if_neg g] at h ⊢
    exact hb h
theorem rt_pst_up {T S : Nat → Int} {V : Nat → Int32} {P Q : Nat → Int → rt_Z → Option rt_Z} (h : ∀ (n : Nat) (o : Int) (s r : rt_Z), P n o s = some r → Q n o s = some r) {nt : Nat} {o : Int} {s r : rt_Z} (hp : rt_pst T S V P nt o s = some r) : rt_pst T S V Q nt o s = some r := by
  match nt, hp with
  | 0, hp => exact rt_bu h (fun _ z => h _ _ _ _ z) hp
  | 1, hp => exact rt_iu (rt_bu h (fun _ z => h _ _ _ _ z)) (fun z => z) hp
  | 2, hp => exact rt_bu h (fun _ z => h _ _ _ _ z) hp
  | 3, hp => exact rt_iu (rt_bu h (fun _ z => h _ _ _ _ z)) (fun z => z) hp
  | 4, hp => exact rt_iu (rt_iu (fun z => z) (rt_bu h (fun _ z => z))) (fun z => h _ _ _ _ z) hp
  | 5, hp => exact rt_bu h (fun _ z => h _ _ _ _ z) hp
  | 6, hp => exact rt_bu h (fun _ z => h _ _ _ _ z) hp
  | 7, hp => exact rt_iu (rt_bu h (fun _ z => h _ _ _ _ z)) (fun z => z) hp
  | 8, hp => exact rt_bu h (fun _ z => h _ _ _ _ z) hp
  | 9, hp => exact rt_iu (rt_bu h (fun _ z => h _ _ _ _ z)) (fun z => z) hp
  | 10, hp => exact rt_iu (fun z => z) (rt_iu (rt_bu h (fun _ z => z)) (rt_iu (rt_bu h (fun _ z => h _ _ _ _ z)) (fun z => z))) hp
  | 11, hp => exact rt_iu (rt_bu h (fun _ z => z)) (fun z => z) hp
  | _ + 12, hp => exact hp
theorem rt_ps_up {T S : Nat → Int} {V : Nat → Int32} {F : Nat} {nt : Nat} {o : Int} {s r : rt_Z} (h : rt_ps T S V F nt o s = some r) : rt_ps T S V (F + 1) nt o s = some r := by
  induction F generalizing nt o s r with
  | zero => exact absurd h (by intro z; cases z)
  | succ F ih => exact rt_pst_up (P := rt_ps T S V F) (Q := rt_ps T S V (F + 1)) (fun _ _ _ _ z => ih z) h
theorem rt_ps_le {T S : Nat → Int} {V : Nat → Int32} {F : Nat} {nt : Nat} {o : Int} {s r : rt_Z} (h : rt_ps T S V F nt o s = some r) (n : Nat) : rt_ps T S V (F + n) nt o s = some r := by
  induction n with
  | zero => exact h
  | succ n ih => exact rt_ps_up ih
def rt_PS (T S : Nat → Int) (V : Nat → Int32) (nt : Nat) (o : Int) (s r : rt_Z) : Prop := ∃ F : Nat, rt_ps T S V F nt o s = some r
theorem rt_PS_u {T S : Nat → Int} {V : Nat → Int32} {nt : Nat} {o : Int} {s r q : rt_Z} (a : rt_PS T S V nt o s r) (b : rt_PS T S V nt o s q) : r = q := by
  obtain ⟨F, hF⟩ := a
  obtain ⟨G, hG⟩ := b
  have h1 := rt_ps_le hF G
  have h2 := rt_ps_le hG F
  rw [Nat.add_comm] at h2
  exact Option.some.inj (h1.symm.trans h2)
theorem rt_PS_b {T S : Nat → Int} {V : Nat → Int32} {a b : Nat} {o p : Int} {s s1 r : rt_Z} {f : rt_Z → rt_Z} (h1 : rt_PS T S V a o s s1) (h2 : rt_PS T S V b p (f s1) r) : ∃ F : Nat, (rt_ps T S V F a o s).bind (fun z => rt_ps T S V F b p (f z)) = some r := by
  obtain ⟨F, hF⟩ := h1
  obtain ⟨G, hG⟩ := h2
  have g2 := rt_ps_le hG F
  rw [Nat.add_comm] at g2
  exact ⟨F + G, Option.bind_eq_some_iff.mpr ⟨s1, rt_ps_le hF G, g2⟩⟩
theorem rt_PS_m {T S : Nat → Int} {V : Nat → Int32} {a : Nat} {o : Int} {s s1 : rt_Z} {f : rt_Z → rt_Z} (h1 : rt_PS T S V a o s s1) : ∃ F : Nat, (rt_ps T S V F a o s).bind (fun z => some (f z)) = some (f s1) := by
  obtain ⟨F, hF⟩ := h1
  exact ⟨F, Option.bind_eq_some_iff.mpr ⟨s1, hF, rfl⟩⟩
theorem rt_PS_0 {T S : Nat → Int} {V : Nat → Int32} {o : Int} {s s1 r : rt_Z} (h1 : rt_PS T S V 2 o s s1) (h2 : rt_PS T S V 1 o s1 r) : rt_PS T S V 0 o s r := by
  obtain ⟨F, h⟩ := rt_PS_b (f := fun z => z) h1 h2
  exact ⟨F + 1, h⟩
theorem rt_PS_2 {T S : Nat → Int} {V : Nat → Int32} {o : Int} {s s1 r : rt_Z} (h1 : rt_PS T S V 4 o s s1) (h2 : rt_PS T S V 3 o s1 r) : rt_PS T S V 2 o s r := by
  obtain ⟨F, h⟩ := rt_PS_b (f := fun z => z) h1 h2
  exact ⟨F + 1, h⟩
theorem rt_PS_5 {T S : Nat → Int} {V : Nat → Int32} {o : Int} {s s1 r : rt_Z} (h1 : rt_PS T S V 6 o s s1) (h2 : rt_PS T S V 11 o s1 r) : rt_PS T S V 5 o s r := by
  obtain ⟨F, h⟩ := rt_PS_b (f := fun z => z) h1 h2
  exact ⟨F + 1, h⟩
theorem rt_PS_6 {T S : Nat → Int} {V : Nat → Int32} {o : Int} {s s1 r : rt_Z} (h1 : rt_PS T S V 8 o s s1) (h2 : rt_PS T S V 7 o s1 r) : rt_PS T S V 6 o s r := by
  obtain ⟨F, h⟩ := rt_PS_b (f := fun z => z) h1 h2
  exact ⟨F + 1, h⟩
theorem rt_PS_8 {T S : Nat → Int} {V : Nat → Int32} {o : Int} {s s1 r : rt_Z} (h1 : rt_PS T S V 10 o s s1) (h2 : rt_PS T S V 9 o s1 r) : rt_PS T S V 8 o s r := by
  obtain ⟨F, h⟩ := rt_PS_b (f := fun z => z) h1 h2
  exact ⟨F + 1, h⟩
theorem rt_PS_1y {T S : Nat → Int} {V : Nat → Int32} {o : Int} {s s1 r : rt_Z} (c : s.2.1 < 0 ∧ T s.1 = 9) (h1 : rt_PS T S V 2 o (rt_adv T s) s1) (h2 : rt_PS T S V 1 o (rt_em (-11) s1) r) : rt_PS T S V 1 o s r := by
  obtain ⟨F, h⟩ := rt_PS_b (f := rt_em (-11)) h1 h2
  exact ⟨F + 1, (if_pos c).trans h⟩
theorem rt_PS_1n {T S : Nat → Int} {V : Nat → Int32} {o : Int} {s : rt_Z} (c : ¬ (s.2.1 < 0 ∧ T s.1 = 9)) : rt_PS T S V 1 o s s := ⟨1, if_neg c⟩
theorem rt_PS_3y {T S : Nat → Int} {V : Nat → Int32} {o : Int} {s s1 r : rt_Z} (c : s.2.1 < 0 ∧ T s.1 = 10) (h1 : rt_PS T S V 4 o (rt_adv T s) s1) (h2 : rt_PS T S V 3 o (rt_em (-12) s1) r) : rt_PS T S V 3 o s r := by
  obtain ⟨F, h⟩ := rt_PS_b (f := rt_em (-12)) h1 h2
  exact ⟨F + 1, (if_pos c).trans h⟩
theorem rt_PS_3n {T S : Nat → Int} {V : Nat → Int32} {o : Int} {s : rt_Z} (c : ¬ (s.2.1 < 0 ∧ T s.1 = 10)) : rt_PS T S V 3 o s s := ⟨1, if_neg c⟩
theorem rt_PS_7y {T S : Nat → Int} {V : Nat → Int32} {o : Int} {s s1 r : rt_Z} (c : s.2.1 < 0 ∧ (T s.1 = 43 ∨ T s.1 = 45)) (h1 : rt_PS T S V 8 o (rt_adv T s) s1) (h2 : rt_PS T S V 7 o (rt_em (if T s.1 = 43 then -16 else -17) s1) r) : rt_PS T S V 7 o s r := by
  obtain ⟨F, h⟩ := rt_PS_b (f := rt_em (if T s.1 = 43 then -16 else -17)) h1 h2
  exact ⟨F + 1, (if_pos c).trans h⟩
theorem rt_PS_7n {T S : Nat → Int} {V : Nat → Int32} {o : Int} {s : rt_Z} (c : ¬ (s.2.1 < 0 ∧ (T s.1 = 43 ∨ T s.1 = 45))) : rt_PS T S V 7 o s s := ⟨1, if_neg c⟩
theorem rt_PS_9y {T S : Nat → Int} {V : Nat → Int32} {o : Int} {s s1 r : rt_Z} (c : s.2.1 < 0 ∧ T s.1 = 42) (h1 : rt_PS T S V 10 o (rt_adv T s) s1) (h2 : rt_PS T S V 9 o (rt_em (-18) s1) r) : rt_PS T S V 9 o s r := by
  obtain ⟨F, h⟩ := rt_PS_b (f := rt_em (-18)) h1 h2
  exact ⟨F + 1, (if_pos c).trans h⟩
theorem rt_PS_9n {T S : Nat → Int} {V : Nat → Int32} {o : Int} {s : rt_Z} (c : ¬ (s.2.1 < 0 ∧ T s.1 = 42)) : rt_PS T S V 9 o s s := ⟨1, if_neg c⟩
theorem rt_PS_11y {T S : Nat → Int} {V : Nat → Int32} {o : Int} {s r : rt_Z} (c : s.2.1 < 0 ∧ (T s.1 = 60 ∨ T s.1 = 61)) (h1 : rt_PS T S V 6 o (rt_adv T s) r) : rt_PS T S V 11 o s (rt_em (if T s.1 = 60 then -14 else -15) r) := by
  obtain ⟨F, h⟩ := rt_PS_m (f := rt_em (if T s.1 = 60 then -14 else -15)) h1
  exact ⟨F + 1, (if_pos c).trans h⟩
theorem rt_PS_11n {T S : Nat → Int} {V : Nat → Int32} {o : Int} {s : rt_Z} (c : ¬ (s.2.1 < 0 ∧ (T s.1 = 60 ∨ T s.1 = 61))) : rt_PS T S V 11 o s s := ⟨1, if_neg c⟩
theorem rt_PS_4f {T S : Nat → Int} {V : Nat → Int32} {o : Int} {s : rt_Z} (c : s.2.1 < 0 ∧ T s.1 = 11) (c2 : 5 ≤ o) : rt_PS T S V 4 o s (rt_fail S s) := ⟨1, (if_pos c).trans (if_pos c2)⟩
theorem rt_PS_4y {T S : Nat → Int} {V : Nat → Int32} {o : Int} {s r : rt_Z} (c : s.2.1 < 0 ∧ T s.1 = 11) (c2 : ¬ 5 ≤ o) (h1 : rt_PS T S V 4 (o + 1) (rt_adv T s) r) : rt_PS T S V 4 o s (rt_em (-13) r) := by
  obtain ⟨F, h⟩ := rt_PS_m (f := rt_em (-13)) h1
  exact ⟨F + 1, (if_pos c).trans ((if_neg c2).trans h)⟩
theorem rt_PS_4n {T S : Nat → Int} {V : Nat → Int32} {o : Int} {s r : rt_Z} (c : ¬ (s.2.1 < 0 ∧ T s.1 = 11)) (h1 : rt_PS T S V 5 o s r) : rt_PS T S V 4 o s r := by
  obtain ⟨F, h⟩ := h1
  exact ⟨F + 1, (if_neg c).trans h⟩
theorem rt_PS_10v {T S : Nat → Int} {V : Nat → Int32} {o : Int} {s : rt_Z} (c : s.2.1 < 0 ∧ (T s.1 = 12 ∨ (0 < T s.1 ∧ T s.1 ≤ 6))) : rt_PS T S V 10 o s (rt_adv T (rt_em (rt_v1 T V s.1) s)) := ⟨1, if_pos c⟩
theorem rt_PS_10m {T S : Nat → Int} {V : Nat → Int32} {o : Int} {s r : rt_Z} (c : (s.2.1 < 0 ∧ T s.1 = 45) ∧ o < 5) (h1 : rt_PS T S V 10 (o + 1) (rt_adv T s) r) : rt_PS T S V 10 o s (rt_em (-19) r) := by
  obtain ⟨F, h⟩ := rt_PS_m (f := rt_em (-19)) h1
  exact ⟨F + 1, (if_neg (by omega)).trans ((if_pos c).trans h)⟩
theorem rt_PS_10b {T S : Nat → Int} {V : Nat → Int32} {o : Int} {s r : rt_Z} (c : (s.2.1 < 0 ∧ T s.1 = 40) ∧ o < 5) (h1 : rt_PS T S V 0 (o + 1) (rt_adv T s) r) : rt_PS T S V 10 o s (rt_need T S 41 r) := by
  obtain ⟨F, h⟩ := rt_PS_b (f := fun z => z) h1 (show rt_PS T S V 12 o r (rt_need T S 41 r) from ⟨1, rfl⟩)
  exact ⟨F + 1, (if_neg (by omega)).trans ((if_neg (by omega)).trans ((if_pos c).trans h))⟩
theorem rt_PS_10f {T S : Nat → Int} {V : Nat → Int32} {o : Int} {s : rt_Z} (c : ¬ (s.2.1 < 0 ∧ (T s.1 = 12 ∨ (0 < T s.1 ∧ T s.1 ≤ 6) ∨ (T s.1 = 45 ∧ o < 5) ∨ (T s.1 = 40 ∧ o < 5)))) : rt_PS T S V 10 o s (rt_fail S s) := ⟨1, (if_neg (by omega)).trans ((if_neg (by omega)).trans (if_neg (by omega)))⟩
theorem rt_PS_id10 {T S : Nat → Int} {V : Nat → Int32} {o : Int} {s : rt_Z} (h : 0 ≤ s.2.1) : rt_PS T S V 10 o s s := by
  have e : rt_fail S s = s := by
    unfold rt_fail
    rw [if_neg (by omega)]
  have z := rt_PS_10f (T := T) (S := S) (V := V) (o := o) (s := s) (by omega)
  rw [e] at z
  exact z
theorem rt_PS_id {T S : Nat → Int} {V : Nat → Int32} {o : Int} {s : rt_Z} (h : 0 ≤ s.2.1) {n : Nat} (hn : n ≤ 11) : rt_PS T S V n o s s := by
  have h10 := rt_PS_id10 (T := T) (S := S) (V := V) (o := o) h
  have h8 := rt_PS_8 h10 (rt_PS_9n (T := T) (S := S) (V := V) (o := o) (by omega))
  have h6 := rt_PS_6 h8 (rt_PS_7n (T := T) (S := S) (V := V) (o := o) (by omega))
  have h5 := rt_PS_5 h6 (rt_PS_11n (T := T) (S := S) (V := V) (o := o) (by omega))
  have h4 := rt_PS_4n (by omega) h5
  have h2 := rt_PS_2 h4 (rt_PS_3n (T := T) (S := S) (V := V) (o := o) (by omega))
  have h0 := rt_PS_0 h2 (rt_PS_1n (T := T) (S := S) (V := V) (o := o) (by omega))
  rcases (show n = 0 ∨ n = 1 ∨ n = 2 ∨ n = 3 ∨ n = 4 ∨ n = 5 ∨ n = 6 ∨ n = 7 ∨ n = 8 ∨ n = 9 ∨ n = 10 ∨ n = 11 by omega) with rfl | rfl | rfl | rfl | rfl | rfl | rfl | rfl | rfl | rfl | rfl | rfl
  · exact h0
  · exact rt_PS_1n (by omega)
  · exact h2
  · exact rt_PS_3n (by omega)
  · exact h4
  · exact h5
  · exact h6
  · exact rt_PS_7n (by omega)
  · exact h8
  · exact rt_PS_9n (by omega)
  · exact h10
  · exact rt_PS_11n (by omega)
/-- a reading goes on, stays within the tokens, and makes no more steps than it takes tokens -/
def rt_gr (c : Nat) (s r : rt_Z) : Prop := s.1 ≤ r.1 ∧ r.1 ≤ c ∧ r.2.2.length + s.1 ≤ s.2.2.length + r.1
theorem rt_gr_t {c : Nat} {s r q : rt_Z} (a : rt_gr c s r) (b : rt_gr c r q) : rt_gr c s q := by
  obtain ⟨a1, a2, a3⟩ := a
  obtain ⟨b1, b2, b3⟩ := b
  exact ⟨Nat.le_trans a1 b1, b2, by omega⟩
theorem rt_gr_i {c : Nat} {s : rt_Z} (h : s.1 ≤ c) : rt_gr c s s := ⟨Nat.le_refl _, h, Nat.le_refl _⟩
theorem rt_gr_f {S : Nat → Int} {c : Nat} {s : rt_Z} (h : s.1 ≤ c) : rt_gr c s (rt_fail S s) := ⟨Nat.le_refl _, h, Nat.le_refl _⟩
theorem rt_adv_1 {T : Nat → Int} {s : rt_Z} (h : ¬ T s.1 = 0) : rt_adv T s = (s.1 + 1, s.2) := by
  unfold rt_adv
  rw [if_neg h]
theorem rt_gr_a {T : Nat → Int} {c : Nat} {s : rt_Z} (h0 : T c = 0) (h : s.1 ≤ c) : rt_gr c s (rt_adv T s) := by
  by_cases z : T s.1 = 0
  · have e : rt_adv T s = s := by
      unfold rt_adv
      rw [if_pos z]
    rw [e]
    exact rt_gr_i h
  · have g : ¬ s.1 = c := fun e => z (by rw [e]; exact h0)
    rw [rt_adv_1 z]
    refine ⟨?_, ?_, ?_⟩
    · show s.1 ≤ s.1 + 1
      omega
    · show s.1 + 1 ≤ c
      omega
    · show s.2.2.length + s.1 ≤ s.2.2.length + (s.1 + 1)
      omega
theorem rt_gr_n {T S : Nat → Int} {c : Nat} {k : Int} {s : rt_Z} (h0 : T c = 0) (h : s.1 ≤ c) : rt_gr c s (rt_need T S k s) := by
  unfold rt_need
  by_cases z : s.2.1 < 0 ∧ T s.1 = k
  · rw [if_pos z]
    exact rt_gr_a h0 h
  · rw [if_neg z]
    exact rt_gr_f h
/-- a token is taken, then something is read, then a step made -/
theorem rt_gr_e {T : Nat → Int} {c : Nat} {s r : rt_Z} {x : Int32} (h0 : T c = 0) (hs : s.1 ≤ c) (hz : ¬ T s.1 = 0) (h : rt_gr c (rt_adv T s) r) : rt_gr c s (rt_em x r) := by
  rw [rt_adv_1 hz] at h
  obtain ⟨a, b, d⟩ := h
  have a : s.1 + 1 ≤ r.1 := a
  have d : r.2.2.length + (s.1 + 1) ≤ s.2.2.length + r.1 := d
  refine ⟨?_, b, ?_⟩
  · show s.1 ≤ r.1
    omega
  · show (r.2.2 ++ [x]).length + s.1 ≤ s.2.2.length + r.1
    rw [List.length_append]
    show r.2.2.length + 1 + s.1 ≤ s.2.2.length + r.1
    omega
theorem rt_gr_v {T : Nat → Int} {c : Nat} {s : rt_Z} {x : Int32} (h0 : T c = 0) (hs : s.1 ≤ c) (hz : ¬ T s.1 = 0) : rt_gr c s (rt_adv T (rt_em x s)) := by
  have g : ¬ s.1 = c := fun e => hz (by rw [e]; exact h0)
  have e : rt_adv T (rt_em x s) = (s.1 + 1, s.2.1, s.2.2 ++ [x]) := by
    unfold rt_adv rt_em
    show (if T s.1 = 0 then s.1 else s.1 + 1, s.2.1, s.2.2 ++ [x]) = _
    rw [if_neg hz]
  rw [e]
  refine ⟨?_, ?_, ?_⟩
  · show s.1 ≤ s.1 + 1
    omega
  · show s.1 + 1 ≤ c
    omega
  · show (s.2.2 ++ [x]).length + s.1 ≤ s.2.2.length + (s.1 + 1)
    rw [List.length_append]
    show s.2.2.length + 1 + s.1 ≤ _
    omega
theorem rt_bg {P : Nat → Int → rt_Z → Option rt_Z} {c : Nat} (h : ∀ (n : Nat) (o : Int) (s r : rt_Z), s.1 ≤ c → P n o s = some r → rt_gr c s r) {a : Nat} {o : Int} {s s0 r : rt_Z} {f : rt_Z → Option rt_Z} (hs : s.1 ≤ c) (hf : ∀ z : rt_Z, rt_gr c s z → f z = some r → rt_gr c s0 r) (hp : (P a o s).bind f = some r) : rt_gr c s0 r := by
  obtain ⟨s1, h1, h2⟩ := Option.bind_eq_some_iff.mp hp
  exact hf s1 (h _ _ _ _ hs h1) h2
theorem rt_sg {c : Nat} {s a r : rt_Z} (h : rt_gr c s a) (e : some a = some r) : rt_gr c s r := by
  cases e
  exact h
theorem rt_pst_r {T S : Nat → Int} {V : Nat → Int32} {P : Nat → Int → rt_Z → Option rt_Z} {c : Nat} (h0 : T c = 0) (h : ∀ (n : Nat) (o : Int) (s r : rt_Z), s.1 ≤ c → P n o s = some r → rt_gr c s r) {nt : Nat} {o : Int} {s r : rt_Z} (hs : s.1 ≤ c) (hp : rt_pst T S V P nt o s = some r) : rt_gr c s r := by
  have hv := rt_gr_a (s := s) h0 hs
  have hi : rt_gr c s s := rt_gr_i hs
  match nt, hp with
  | 0, hp => exact rt_bg h hs (fun z a b => rt_gr_t a (h _ _ _ _ a.2.1 b)) hp
  | 1, hp =>
    have hp : (if s.2.1 < 0 ∧ T s.1 = 9 then (P 2 o (rt_adv T s)).bind (fun z => P 1 o (rt_em (-11) z)) else some s) = some r := hp
    split at hp
    · rename_i g
      exact rt_bg h hv.2.1 (fun z a b => rt_gr_t (rt_gr_e h0 hs (by omega) a) (h _ _ _ _ a.2.1 b)) hp
    · exact rt_sg hi hp
  | 2, hp => exact rt_bg h hs (fun z a b => rt_gr_t a (h _ _ _ _ a.2.1 b)) hp
  | 3, hp =>
    have hp : (if s.2.1 < 0 ∧ T s.1 = 10 then (P 4 o (rt_adv T s)).bind (fun z => P 3 o (rt_em (-12) z)) else some s) = some r := hp
    split at hp
    · rename_i g
      exact rt_bg h hv.2.1 (fun z a b => rt_gr_t (rt_gr_e h0 hs (by omega) a) (h _ _ _ _ a.2.1 b)) hp
    · exact rt_sg hi hp
  | 4, hp =>
    have hp : (if s.2.1 < 0 ∧ T s.1 = 11 then (if 5 ≤ o then some (rt_fail S s) else (P 4 (o + 1) (rt_adv T s)).bind (fun z => some (rt_em (-13) z))) else P 5 o s) = some r := hp
    split at hp
    · rename_i g
      split at hp
      · exact rt_sg (rt_gr_f hs) hp
      · exact rt_bg h hv.2.1 (fun z a b => rt_sg (rt_gr_e h0 hs (by omega) a) b) hp
    · exact h _ _ _ _ hs hp
  | 5, hp => exact rt_bg h hs (fun z a b => rt_gr_t a (h _ _ _ _ a.2.1 b)) hp
  | 6, hp => exact rt_bg h hs (fun z a b => rt_gr_t a (h _ _ _ _ a.2.1 b)) hp
  | 7, hp =>
    have hp : (if s.2.1 < 0 ∧ (T s.1 = 43 ∨ T s.1 = 45) then (P 8 o (rt_adv T s)).bind (fun z => P 7 o (rt_em (if T s.1 = 43 then -16 else -17) z)) else some s) = some r := hp
    by_cases g : s.2.1 < 0 ∧ (T s.1 = 43 ∨ T s.1 = 45)
    · rw [if_pos g] at hp
      exact rt_bg h hv.2.1 (fun z a b => rt_gr_t (rt_gr_e h0 hs (by omega) a) (h _ _ _ _ a.2.1 b)) hp
    · rw [if_neg g] at hp
      exact rt_sg hi hp
  | 8, hp => exact rt_bg h hs (fun z a b => rt_gr_t a (h _ _ _ _ a.2.1 b)) hp
  | 9, hp =>
    have hp : (if s.2.1 < 0 ∧ T s.1 = 42 then (P 10 o (rt_adv T s)).bind (fun z => P 9 o (rt_em (-18) z)) else some s) = some r := hp
    split at hp
    · rename_i g
      exact rt_bg h hv.2.1 (fun z a b => rt_gr_t (rt_gr_e h0 hs (by omega) a) (h _ _ _ _ a.2.1 b)) hp
    · exact rt_sg hi hp
  | 10, hp =>
    have hp : (if s.2.1 < 0 ∧ (T s.1 = 12 ∨ (0 < T s.1 ∧ T s.1 ≤ 6)) then some (rt_adv T (rt_em (rt_v1 T V s.1) s)) else if (s.2.1 < 0 ∧ T s.1 = 45) ∧ o < 5 then (P 10 (o + 1) (rt_adv T s)).bind (fun z => some (rt_em (-19) z)) else if (s.2.1 < 0 ∧ T s.1 = 40) ∧ o < 5 then (P 0 (o + 1) (rt_adv T s)).bind (P 12 o) else some (rt_fail S s)) = some r := hp
    split at hp
    · rename_i g
      exact rt_sg (rt_gr_v h0 hs (by omega)) hp
    · split at hp
      · rename_i g
        exact rt_bg h hv.2.1 (fun z a b => rt_sg (rt_gr_e h0 hs (by omega) a) b) hp
      · split at hp
        · exact rt_bg h hv.2.1 (fun z a b => rt_gr_t (rt_gr_t hv a) (h _ _ _ _ a.2.1 b)) hp
        · exact rt_sg (rt_gr_f hs) hp
  | 11, hp =>
    have hp : (if s.2.1 < 0 ∧ (T s.1 = 60 ∨ T s.1 = 61) then (P 6 o (rt_adv T s)).bind (fun z => some (rt_em (if T s.1 = 60 then -14 else -15) z)) else some s) = some r := hp
    by_cases g : s.2.1 < 0 ∧ (T s.1 = 60 ∨ T s.1 = 61)
    · rw [if_pos g] at hp
      exact rt_bg h hv.2.1 (fun z a b => rt_sg (rt_gr_e h0 hs (by omega) a) b) hp
    · rw [if_neg g] at hp
      exact rt_sg hi hp
  | _ + 12, hp => exact rt_sg (rt_gr_n h0 hs) hp
theorem rt_ps_r {T S : Nat → Int} {V : Nat → Int32} {c : Nat} (h0 : T c = 0) {F nt : Nat} {o : Int} {s r : rt_Z} (hs : s.1 ≤ c) (h : rt_ps T S V F nt o s = some r) : rt_gr c s r := by
  induction F generalizing nt o s r with
  | zero => exact absurd h (by intro z; cases z)
  | succ F ih => exact rt_pst_r h0 (fun _ _ _ _ a b => ih a b) hs h
theorem rt_PS_r {T S : Nat → Int} {V : Nat → Int32} {c : Nat} {nt : Nat} {o : Int} {s r : rt_Z} (h : rt_PS T S V nt o s r) (h0 : T c = 0) (hs : s.1 ≤ c) : rt_gr c s r := by
  obtain ⟨F, hF⟩ := h
  exact rt_ps_r h0 hs hF
theorem rt_pst_c {T U S R : Nat → Int} {V W : Nat → Int32} {P Q : Nat → Int → rt_Z → Option rt_Z} {c : Nat} (h0 : T c = 0) (hT : ∀ k : Nat, k ≤ c → U k = T k ∧ R k = S k ∧ (T k = 12 → W k = V k)) (hr : ∀ (n : Nat) (o : Int) (s r : rt_Z), s.1 ≤ c → P n o s = some r → rt_gr c s r) (h : ∀ (n : Nat) (o : Int) (s : rt_Z), s.1 ≤ c → Q n o s = P n o s) {nt : Nat} {o : Int} {s : rt_Z} (hs : s.1 ≤ c) : rt_pst U R W Q nt o s = rt_pst T S V P nt o s := by
  obtain ⟨eT, eS, eV⟩ := hT s.1 hs
  have hv := rt_gr_a (s := s) h0 hs
  have ea : rt_adv U s = rt_adv T s := by unfold rt_adv; rw [eT]
  have ef : rt_fail R s = rt_fail S s := by unfold rt_fail; rw [eS]
  have en : rt_need U R 41 s = rt_need T S 41 s := by unfold rt_need; rw [eT, ea, ef]
  have e1 : rt_v1 U W s.1 = rt_v1 T V s.1 := by
    unfold rt_v1
    rw [eT]
    by_cases z : T s.1 = 12
    · rw [if_pos z, if_pos z, eV z]
    · rw [if_neg z, if_neg z]
  have hb : ∀ (a : Nat) (p : Int) (t : rt_Z) (f g : rt_Z → Option rt_Z), t.1 ≤ c → (∀ z : rt_Z, z.1 ≤ c → f z = g z) → (Q a p t).bind f = (P a p t).bind g := by
    intro a p t f g ht hf
    rw [h a p t ht]
    cases e : P a p t with
    | none => rfl
    | some t1 => exact hf t1 (hr _ _ _ _ ht e).2.1
  have ea2 : ∀ z : rt_Z, rt_adv U s = rt_adv T s := fun _ => ea
  have hadv : (rt_adv U s).1 ≤ c := by rw [ea]; exact hv.2.1
  match nt with
  | 0 => exact hb _ _ _ _ _ hs (fun z hz => h _ _ _ hz)
  | 1 =>
    show (if s.2.1 < 0 ∧ U s.1 = 9 then (Q 2 o (rt_adv U s)).bind (fun z => Q 1 o (rt_em (-11) z)) else some s) = (if s.2.1 < 0 ∧ T s.1 = 9 then (P 2 o (rt_adv T s)).bind (fun z => P 1 o (rt_em (-11) z)) else some s)
    rw [eT, ea, hb 2 o (rt_adv T s) (fun z => Q 1 o (rt_em (-11) z)) (fun z => P 1 o (rt_em (-11) z)) hv.2.1 (fun z hz => h _ _ _ hz)]
  | 2 => exact hb _ _ _ _ _ hs (fun z hz => h _ _ _ hz)
  | 3 =>
    show (if s.2.1 < 0 ∧ U s.1 = 10 then (Q 4 o (rt_adv U s)).bind (fun z => Q 3 o (rt_em (-12) z)) else some s) = (if s.2.1 < 0 ∧ T s.1 = 10 then (P 4 o (rt_adv T s)).bind (fun z => P 3 o (rt_em (-12) z)) else some s)
    rw [eT, ea, hb 4 o (rt_adv T s) (fun z => Q 3 o (rt_em (-12) z)) (fun z => P 3 o (rt_em (-12) z)) hv.2.1 (fun z hz => h _ _ _ hz)]
  | 4 =>
    show (if s.2.1 < 0 ∧ U s.1 = 11 then (if 5 ≤ o then some (rt_fail R s) else (Q 4 (o + 1) (rt_adv U s)).bind (fun z => some (rt_em (-13) z))) else Q 5 o s) = (if s.2.1 < 0 ∧ T s.1 = 11 then (if 5 ≤ o then some (rt_fail S s) else (P 4 (o + 1) (rt_adv T s)).bind (fun z => some (rt_em (-13) z))) else P 5 o s)
    rw [eT, ea, ef, h 4 (o + 1) (rt_adv T s) hv.2.1, h 5 o s hs]
  | 5 => exact hb _ _ _ _ _ hs (fun z hz => h _ _ _ hz)
  | 6 => exact hb _ _ _ _ _ hs (fun z hz => h _ _ _ hz)
  | 7 =>
    show (if s.2.1 < 0 ∧ (U s.1 = 43 ∨ U s.1 = 45) then (Q 8 o (rt_adv U s)).bind (fun z => Q 7 o (rt_em (if U s.1 = 43 then -16 else -17) z)) else some s) = (if s.2.1 < 0 ∧ (T s.1 = 43 ∨ T s.1 = 45) then (P 8 o (rt_adv T s)).bind (fun z => P 7 o (rt_em (if T s.1 = 43 then -16 else -17) z)) else some s)
    rw [eT, ea, hb 8 o (rt_adv T s) (fun z => Q 7 o (rt_em (if T s.1 = 43 then -16 else -17) z)) (fun z => P 7 o (rt_em (if T s.1 = 43 then -16 else -17) z)) hv.2.1 (fun z hz => h _ _ _ hz)]
  | 8 => exact hb _ _ _ _ _ hs (fun z hz => h _ _ _ hz)
  | 9 =>
    show (if s.2.1 < 0 ∧ U s.1 = 42 then (Q 10 o (rt_adv U s)).bind (fun z => Q 9 o (rt_em (-18) z)) else some s) = (if s.2.1 < 0 ∧ T s.1 = 42 then (P 10 o (rt_adv T s)).bind (fun z => P 9 o (rt_em (-18) z)) else some s)
    rw [eT, ea, hb 10 o (rt_adv T s) (fun z => Q 9 o (rt_em (-18) z)) (fun z => P 9 o (rt_em (-18) z)) hv.2.1 (fun z hz => h _ _ _ hz)]
  | 10 =>
    show (if s.2.1 < 0 ∧ (U s.1 = 12 ∨ (0 < U s.1 ∧ U s.1 ≤ 6)) then some (rt_adv U (rt_em (rt_v1 U W s.1) s)) else if (s.2.1 < 0 ∧ U s.1 = 45) ∧ o < 5 then (Q 10 (o + 1) (rt_adv U s)).bind (fun z => some (rt_em (-19) z)) else if (s.2.1 < 0 ∧ U s.1 = 40) ∧ o < 5 then (Q 0 (o + 1) (rt_adv U s)).bind (Q 12 o) else some (rt_fail R s)) = (if s.2.1 < 0 ∧ (T s.1 = 12 ∨ (0 < T s.1 ∧ T s.1 ≤ 6)) then some (rt_adv T (rt_em (rt_v1 T V s.1) s)) else if (s.2.1 < 0 ∧ T s.1 = 45) ∧ o < 5 then (P 10 (o + 1) (rt_adv T s)).bind (fun z => some (rt_em (-19) z)) else if (s.2.1 < 0 ∧ T s.1 = 40) ∧ o < 5 then (P 0 (o + 1) (rt_adv T s)).bind (P 12 o) else some (rt_fail S s))
    have e2 : rt_adv U (rt_em (rt_v1 U W s.1) s) = rt_adv T (rt_em (rt_v1 T V s.1) s) := by
      rw [e1]
      unfold rt_adv rt_em
      show (if U s.1 = 0 then s.1 else s.1 + 1, _) = (if T s.1 = 0 then s.1 else s.1 + 1, _)
      rw [eT]
    rw [e2, eT, ea, ef, h 10 (o + 1) (rt_adv T s) hv.2.1, hb 0 (o + 1) (rt_adv T s) (Q 12 o) (P 12 o) hv.2.1 (fun z hz => h _ _ _ hz)]
  | 11 =>
    show (if s.2.1 < 0 ∧ (U s.1 = 60 ∨ U s.1 = 61) then (Q 6 o (rt_adv U s)).bind (fun z => some (rt_em (if U s.1 = 60 then -14 else -15) z)) else some s) = (if s.2.1 < 0 ∧ (T s.1 = 60 ∨ T s.1 = 61) then (P 6 o (rt_adv T s)).bind (fun z => some (rt_em (if T s.1 = 60 then -14 else -15) z)) else some s)
    rw [eT, ea, h 6 o (rt_adv T s) hv.2.1]
  | n + 12 =>
    show some (rt_need U R 41 s) = some (rt_need T S 41 s)
    rw [en]
theorem rt_ps_c {T U S R : Nat → Int} {V W : Nat → Int32} {c : Nat} (h0 : T c = 0) (hT : ∀ k : Nat, k ≤ c → U k = T k ∧ R k = S k ∧ (T k = 12 → W k = V k)) {F nt : Nat} {o : Int} {s : rt_Z} (hs : s.1 ≤ c) : rt_ps U R W F nt o s = rt_ps T S V F nt o s := by
  induction F generalizing nt o s with
  | zero => rfl
  | succ F ih => exact rt_pst_c h0 hT (fun _ _ _ _ a b => rt_ps_r h0 a b) (fun _ _ _ a => ih a) hs
theorem rt_PS_c {T U S R : Nat → Int} {V W : Nat → Int32} {c : Nat} (h0 : T c = 0) (hT : ∀ k : Nat, k ≤ c → U k = T k ∧ R k = S k ∧ (T k = 12 → W k = V k)) {nt : Nat} {o : Int} {s r : rt_Z} (hs : s.1 ≤ c) (h : rt_PS U R W nt o s r) : rt_PS T S V nt o s r := by
  obtain ⟨F, hF⟩ := h
  exact ⟨F, by rw [← rt_ps_c h0 hT hs]; exact hF⟩
/-- the machine of steps: E what the names say; no more than 64 stand on the stack -/
def rt_tru (b : Bool) : Int32 := if b then 1 else 0
def rt_jn (c a b : Int32) : Int32 := if c = -11 then rt_tru (decide (¬ a = 0 ∨ ¬ b = 0)) else if c = -12 then rt_tru (decide (¬ a = 0 ∧ ¬ b = 0)) else if c = -14 then rt_tru (decide (a.toInt < b.toInt)) else if c = -15 then rt_tru (decide (a = b)) else if c = -16 then a + b else if c = -17 then a - b else a * b
def rt_un (c a : Int32) : Int32 := if c = -19 then -a else rt_tru (decide (a = 0))
def rt_mc (E : Nat → Int32) (c : Int32) (st : List Int32) : List Int32 :=
  if -6 ≤ c.toInt then (if st.length < 64 then (if 0 ≤ c.toInt then c else E (-1 - c.toInt).toNat) :: st else st)
  else if c = -13 ∨ c = -19 then (match st with
    | [] => []
    | a :: t => rt_un c a :: t)
  else (match st with
    | b :: a :: t => rt_jn c a b :: t
    | t => t)
def rt_run (E : Nat → Int32) (d : List Int32) (st : List Int32) : List Int32 := d.foldl (fun t c => rt_mc E c t) st
theorem rt_run_a (E : Nat → Int32) (d e : List Int32) (st : List Int32) : rt_run E (d ++ e) st = rt_run E e (rt_run E d st) := List.foldl_append
/-- what was read says r -/
def rt_VL (E : Nat → Int32) (D : Nat) (s r : rt_Z) (v : Int32) : Prop := r.2.1 < 0 → ∃ d : List Int32, r.2.2 = s.2.2 ++ d ∧ ∀ st : List Int32, st.length + D ≤ 64 → rt_run E d st = v :: st
theorem rt_VL_x {E : Nat → Int32} {D : Nat} {s r : rt_Z} {v : Int32} (h : 0 ≤ r.2.1) : rt_VL E D s r v := fun z => absurd z (by omega)
theorem rt_VL_up {E : Nat → Int32} {D D1 : Nat} {s r : rt_Z} {v : Int32} (h : rt_VL E D s r v) (hD : D ≤ D1) : rt_VL E D1 s r v := by
  intro z
  obtain ⟨d, e, f⟩ := h z
  exact ⟨d, e, fun st g => f st (by omega)⟩
theorem rt_VL_1 {E : Nat → Int32} {D : Nat} {T : Nat → Int} {s r : rt_Z} {v c : Int32} (h : rt_VL E D (rt_adv T s) r v) (hc : c = -13 ∨ c = -19) : rt_VL E D s (rt_em c r) (rt_un c v) := by
  intro z
  obtain ⟨d, e, f⟩ := h z
  refine ⟨d ++ [c], ?_, fun st g => ?_⟩
  · show r.2.2 ++ [c] = s.2.2 ++ (d ++ [c])
    rw [e, List.append_assoc]
    rfl
  · rw [rt_run_a, f st g]
    show rt_mc E c (v :: st) = rt_un c v :: st
    have hn : ¬ -6 ≤ c.toInt := by rcases hc with rfl | rfl <;> decide
    unfold rt_mc
    rw [if_neg hn, if_pos hc]
theorem rt_VL_2 {E : Nat → Int32} {D D1 D2 : Nat} {T : Nat → Int} {s r q : rt_Z} {a b c : Int32} (h1 : rt_VL E D1 s r a) (hr : r.2.1 < 0) (h2 : rt_VL E D2 (rt_adv T r) q b) (hc : ¬ -6 ≤ c.toInt ∧ ¬ (c = -13 ∨ c = -19)) (g1 : D1 ≤ D) (g2 : D2 + 1 ≤ D) : rt_VL E D s (rt_em c q) (rt_jn c a b) := by
  intro z
  obtain ⟨d1, e1, f1⟩ := h1 hr
  obtain ⟨d2, e2, f2⟩ := h2 z
  refine ⟨d1 ++ (d2 ++ [c]), ?_, fun st g => ?_⟩
  · show q.2.2 ++ [c] = s.2.2 ++ (d1 ++ (d2 ++ [c]))
    have e2 : q.2.2 = r.2.2 ++ d2 := e2
    rw [e2, e1, List.append_assoc, List.append_assoc]
  · rw [rt_run_a, rt_run_a, f1 st (by omega), f2 (a :: st) (by show st.length + 1 + D2 ≤ 64; omega)]
    show rt_mc E c (b :: a :: st) = rt_jn c a b :: st
    unfold rt_mc
    rw [if_neg hc.1, if_neg hc.2]
theorem rt_VL_v {E : Nat → Int32} {T : Nat → Int} {s : rt_Z} {c v : Int32} (hc : -6 ≤ c.toInt) (hv : v = if 0 ≤ c.toInt then c else E (-1 - c.toInt).toNat) : rt_VL E 1 s (rt_adv T (rt_em c s)) v := by
  intro _
  refine ⟨[c], rfl, fun st g => ?_⟩
  show rt_mc E c st = v :: st
  unfold rt_mc
  rw [if_pos hc, if_pos (by omega), hv]
def rt_ch (x : Int32) : Int32 := ((x &&& 255).toUInt32 % 65536).toInt32
abbrev rt_isL (b : Int) : Prop := 97 ≤ b ∧ b ≤ 122
abbrev rt_isD (b : Int) : Prop := 48 ≤ b ∧ b ≤ 57
abbrev rt_isB (b : Int) : Prop := b = 32 ∨ b = 10
abbrev rt_isG (b : Int) : Prop := (40 ≤ b ∧ b ≤ 43) ∨ b = 45 ∨ (59 ≤ b ∧ b ≤ 61)
/-- behind blanks from p on comes q -/
def rt_SK (f : Int → Int) (n p q : Int) : Prop := p ≤ q ∧ q ≤ n ∧ (∀ x : Int, p ≤ x → x < q → rt_isB (f x)) ∧ ¬ (q < n ∧ rt_isB (f q))
/-- a token from p on ends at e -/
def rt_EN (f : Int → Int) (n p e : Int) : Prop := p < e ∧ e ≤ n ∧ ((rt_isL (f p) ∧ (∀ x : Int, p ≤ x → x < e → rt_isL (f x)) ∧ ¬ (e < n ∧ rt_isL (f e))) ∨ (rt_isD (f p) ∧ (∀ x : Int, p ≤ x → x < e → rt_isD (f x)) ∧ ¬ (e < n ∧ rt_isD (f e))) ∨ (¬ rt_isL (f p) ∧ ¬ rt_isD (f p) ∧ e = p + 1))
theorem rt_SK_u {f : Int → Int} {n p q r : Int} (a : rt_SK f n p q) (b : rt_SK f n p r) : q = r := by
  obtain ⟨a1, a2, a3, a4⟩ := a
  obtain ⟨b1, b2, b3, b4⟩ := b
  rcases Int.lt_trichotomy q r with g | g | g
  · exact absurd ⟨by omega, b3 q a1 g⟩ a4
  · exact g
  · exact absurd ⟨by omega, a3 r b1 g⟩ b4
theorem rt_EN_u {f : Int → Int} {n p e d : Int} (a : rt_EN f n p e) (b : rt_EN f n p d) : e = d := by
  obtain ⟨a1, a2, a3⟩ := a
  obtain ⟨b1, b2, b3⟩ := b
  rcases a3 with ⟨c1, c2, c3⟩ | ⟨c1, c2, c3⟩ | ⟨c1, c2, c3⟩ <;> rcases b3 with ⟨d1, d2, d3⟩ | ⟨d1, d2, d3⟩ | ⟨d1, d2, d3⟩
  · rcases Int.lt_trichotomy e d with g | g | g
    · exact absurd ⟨by omega, d2 e (by omega) g⟩ c3
    · exact g
    · exact absurd ⟨by omega, c2 d (by omega) g⟩ d3
  · exfalso; omega
  · exact absurd c1 d1
  · exfalso; omega
  · rcases Int.lt_trichotomy e d with g | g | g
    · exact absurd ⟨by omega, d2 e (by omega) g⟩ c3
    · exact g
    · exact absurd ⟨by omega, c2 d (by omega) g⟩ d3
  · exact absurd c1 d2
  · exact absurd d1 c1
  · exact absurd d1 c2
  · omega
/-- a stretch of bytes spells a word -/
def rt_mt (f : Int → Int) (p e : Int) (w : List Int32) : Prop := e - p = w.length ∧ ∀ j : Nat, j < w.length → f (p + j) = (w.getD j 0).toInt
def rt_W (k : Nat) : List Int32 := ([[], [115, 116, 114, 101, 110, 103, 116, 104], [104, 117, 114, 116], [115, 107, 105, 108, 108], [104, 111, 117, 114], [102, 117, 101, 108], [102, 97, 114], [116, 97, 107, 101], [103, 111], [111, 114], [97, 110, 100], [110, 111, 116]] : List (List Int32)).getD k []
theorem rt_W_ne : ∀ j k : Fin 12, 1 ≤ j.1 → 1 ≤ k.1 → j ≠ k → (rt_W j.1).length ≠ (rt_W k.1).length ∨ ((List.range 8).any (fun i => decide (i < (rt_W j.1).length) && decide (((rt_W j.1).getD i 0).toInt ≠ ((rt_W k.1).getD i 0).toInt))) = true := by decide +kernel
theorem rt_W_1 : ∀ k : Fin 12, 1 ≤ k.1 → 1 ≤ (rt_W k.1).length ∧ 97 ≤ ((rt_W k.1).getD 0 0).toInt ∧ ((rt_W k.1).getD 0 0).toInt ≤ 122 := by decide +kernel
theorem rt_mt_u {f : Int → Int} {p e : Int} {j k : Nat} (hj : 1 ≤ j ∧ j ≤ 11) (hk : 1 ≤ k ∧ k ≤ 11) (a : rt_mt f p e (rt_W j)) (b : rt_mt f p e (rt_W k)) : j = k := by
  apply Decidable.byContradiction
  intro hne
  rcases rt_W_ne ⟨j, by omega⟩ ⟨k, by omega⟩ hj.1 hk.1 (fun z => hne (congrArg Fin.val z)) with h | h
  · apply h
    have h1 := a.1
    have h2 := b.1
    show (rt_W j).length = (rt_W k).length
    omega
  · obtain ⟨i, hi, h2⟩ := List.any_eq_true.mp h
    have h2 : (decide (i < (rt_W j).length) && decide (((rt_W j).getD i 0).toInt ≠ ((rt_W k).getD i 0).toInt)) = true := h2
    rw [Bool.and_eq_true, decide_eq_true_eq, decide_eq_true_eq] at h2
    have h2 : i < (rt_W j).length ∧ ((rt_W j).getD i 0).toInt ≠ ((rt_W k).getD i 0).toInt := h2
    have h3 := a.2 i h2.1
    have h4 := b.2 i (by have h5 := a.1; have h6 := b.1; omega)
    exact h2.2 (h3.symm.trans h4)
/-- which kind of token it is -/
def rt_KD (f : Int → Int) (p e t : Int) : Prop := (rt_isL (f p) ∧ ((∃ k : Nat, 1 ≤ k ∧ k ≤ 11 ∧ t = k ∧ rt_mt f p e (rt_W k)) ∨ (t = -1 ∧ ∀ k : Nat, 1 ≤ k → k ≤ 11 → ¬ rt_mt f p e (rt_W k)))) ∨ (rt_isD (f p) ∧ ((e - p ≤ 4 ∧ t = 12) ∨ (4 < e - p ∧ t = -1))) ∨ (¬ rt_isL (f p) ∧ ¬ rt_isD (f p) ∧ ((rt_isG (f p) ∧ t = f p) ∨ (¬ rt_isG (f p) ∧ t = -1)))
theorem rt_kw {f : Int → Int} {p e t : Int} (hK : rt_KD f p e t) {k : Nat} (hk : 1 ≤ k ∧ k ≤ 11) : rt_mt f p e (rt_W k) ↔ t = k := by
  obtain ⟨w1, w2, w3⟩ := rt_W_1 ⟨k, by omega⟩ hk.1
  constructor
  · intro m
    have h0 := m.2 0 w1
    rw [show p + ((0 : Nat) : Int) = p by omega] at h0
    have w2 : 97 ≤ ((rt_W k).getD 0 0).toInt := w2
    have w3 : ((rt_W k).getD 0 0).toInt ≤ 122 := w3
    have hL : rt_isL (f p) := by rw [h0]; exact ⟨w2, w3⟩
    rcases hK with ⟨_, ⟨j, j1, j2, j3, j4⟩ | ⟨_, j2⟩⟩ | ⟨d1, _⟩ | ⟨d1, _⟩
    · rw [j3, rt_mt_u ⟨j1, j2⟩ hk j4 m]
    · exact absurd m (j2 k hk.1 hk.2)
    · exfalso; omega
    · exact absurd hL d1
  · intro ht
    rcases hK with ⟨_, ⟨j, j1, j2, j3, j4⟩ | ⟨j1, _⟩⟩ | ⟨_, ⟨_, d2⟩ | ⟨_, d2⟩⟩ | ⟨_, _, ⟨d3, d4⟩ | ⟨_, d4⟩⟩
    · have e : j = k := by omega
      rw [← e]
      exact j4
    all_goals (exfalso; omega)
theorem rt_kg {f : Int → Int} {n p e t : Int} (hE : rt_EN f n p e) (hK : rt_KD f p e t) {g : Int32} (hg : rt_isG g.toInt) : rt_mt f p e [g] ↔ t = g.toInt := by
  constructor
  · intro m
    have h0 := m.2 0 (show 0 < 1 from Nat.zero_lt_one)
    rw [show p + ((0 : Nat) : Int) = p by omega] at h0
    have h0 : f p = g.toInt := h0
    rcases hK with ⟨d1, _⟩ | ⟨d1, _⟩ | ⟨_, _, ⟨_, d4⟩ | ⟨d3, _⟩⟩
    · exfalso; omega
    · exfalso; omega
    · rw [d4, h0]
    · exfalso; omega
  · intro ht
    rcases hK with ⟨_, ⟨j, j1, j2, j3, j4⟩ | ⟨j1, _⟩⟩ | ⟨_, ⟨_, d2⟩ | ⟨_, d2⟩⟩ | ⟨d1, d2, ⟨d3, d4⟩ | ⟨_, d4⟩⟩
    · exfalso; omega
    · exfalso; omega
    · exfalso; omega
    · exfalso; omega
    · obtain ⟨_, _, c | c | c⟩ := hE
      · exact absurd c.1 d1
      · exact absurd c.1 d2
      · refine ⟨by show e - p = ((1 : Nat) : Int); omega, fun j hj => ?_⟩
        have hj : j < 1 := hj
        rw [show j = 0 by omega, show p + ((0 : Nat) : Int) = p by omega]
        show f p = g.toInt
        omega
    · exfalso; omega
theorem rt_kn {f : Int → Int} {p e t : Int} (hK : rt_KD f p e t) : t = 12 ↔ (rt_isD (f p) ∧ e - p ≤ 4) := by
  rcases hK with ⟨d1, ⟨j, j1, j2, j3, j4⟩ | ⟨j1, _⟩⟩ | ⟨d1, ⟨d2, d3⟩ | ⟨d2, d3⟩⟩ | ⟨d1, d2, ⟨d3, d4⟩ | ⟨d3, d4⟩⟩ <;> omega
/-- the tokens of a tape: S where they begin, B where the one before ends, T their kinds -/
def rt_TK (f : Int → Int) (n : Int) (c : Nat) (S B T : Nat → Int) : Prop := B 0 = 0 ∧ (∀ k : Nat, k < c → S k < n ∧ rt_SK f n (B k) (S k) ∧ rt_EN f n (S k) (B (k + 1)) ∧ rt_KD f (S k) (B (k + 1)) (T k)) ∧ rt_SK f n (B c) (S c) ∧ S c = n ∧ B (c + 1) = n ∧ T c = 0
/-- the same while they are cut: cnt tokens are there, and from the last one's end to pl there are blanks alone -/
def rt_TP (f : Int → Int) (n : Int) (cnt : Nat) (S T : Nat → Int) (pl : Int) : Prop := ∃ B : Nat → Int, B 0 = 0 ∧ (∀ k : Nat, k < cnt → S k < n ∧ rt_SK f n (B k) (S k) ∧ rt_EN f n (S k) (B (k + 1)) ∧ rt_KD f (S k) (B (k + 1)) (T k)) ∧ B cnt ≤ pl ∧ pl ≤ n ∧ (∀ x : Int, B cnt ≤ x → x < pl → rt_isB (f x)) ∧ (cnt : Int) ≤ pl
theorem rt_TP_0 {f : Int → Int} {n : Int} {S T : Nat → Int} (h : 0 ≤ n) : rt_TP f n 0 S T 0 := ⟨fun _ => 0, rfl, fun k hk => absurd hk (Nat.not_lt_zero k), Int.le_refl _, h, fun x h1 h2 => absurd h2 (Int.not_lt.mpr h1), Int.le_refl _⟩
theorem rt_TP_b {f : Int → Int} {n : Int} {cnt : Nat} {S T : Nat → Int} {pl : Int} (h : rt_TP f n cnt S T pl) (hn : pl < n) (hb : rt_isB (f pl)) : rt_TP f n cnt S T (pl + 1) := by
  obtain ⟨B, b0, b1, b2, b3, b4, b5⟩ := h
  refine ⟨B, b0, b1, by omega, by omega, fun x h1 h2 => ?_, by omega⟩
  rcases Int.lt_or_le x pl with g | g
  · exact b4 x h1 g
  · rw [show x = pl by omega]
    exact hb
theorem rt_TP_t {f : Int → Int} {n : Int} {cnt : Nat} {S T S1 T1 : Nat → Int} {pl e : Int} (h : rt_TP f n cnt S T pl) (hn : pl < n) (hb : ¬ rt_isB (f pl)) (hS : ∀ k : Nat, k < cnt → S1 k = S k) (hT : ∀ k : Nat, k < cnt → T1 k = T k) (hs : S1 cnt = pl) (hE : rt_EN f n pl e) (hK : rt_KD f pl e (T1 cnt)) : rt_TP f n (cnt + 1) S1 T1 e := by
  obtain ⟨B, b0, b1, b2, b3, b4, b5⟩ := h
  have e1 := hE.1
  have e2 := hE.2.1
  refine ⟨fun k => if k = cnt + 1 then e else B k, ?_, fun k hk => ?_, ?_, e2, fun x h1 h2 => ?_, by omega⟩
  · show (if 0 = cnt + 1 then e else B 0) = 0
    rw [if_neg (by omega), b0]
  · show S1 k < n ∧ rt_SK f n (if k = cnt + 1 then e else B k) (S1 k) ∧ rt_EN f n (S1 k) (if k + 1 = cnt + 1 then e else B (k + 1)) ∧ rt_KD f (S1 k) (if k + 1 = cnt + 1 then e else B (k + 1)) (T1 k)
    rw [if_neg (by omega)]
    by_cases g : k = cnt
    · rw [if_pos (by omega), g, hs]
      exact ⟨hn, ⟨b2, b3, b4, fun z => hb z.2⟩, hE, hK⟩
    · rw [if_neg (by omega), hS k (by omega), hT k (by omega)]
      exact b1 k (by omega)
  · show (if cnt + 1 = cnt + 1 then e else B (cnt + 1)) ≤ e
    rw [if_pos rfl]
    exact Int.le_refl _
  · have h1 : (if cnt + 1 = cnt + 1 then e else B (cnt + 1)) ≤ x := h1
    rw [if_pos rfl] at h1
    omega
theorem rt_TP_x {f : Int → Int} {n : Int} {cnt : Nat} {S T S1 T1 : Nat → Int} {pl : Int} (h : rt_TP f n cnt S T pl) (hn : n ≤ pl) (hS : ∀ k : Nat, k < cnt → S1 k = S k) (hT : ∀ k : Nat, k < cnt → T1 k = T k) (hs : S1 cnt = n) (ht : T1 cnt = 0) : ∃ B : Nat → Int, rt_TK f n cnt S1 B T1 := by
  obtain ⟨B, b0, b1, b2, b3, b4, b5⟩ := h
  refine ⟨fun k => if k = cnt + 1 then n else B k, ?_, fun k hk => ?_, ?_, hs, ?_, ht⟩
  · show (if 0 = cnt + 1 then n else B 0) = 0
    rw [if_neg (by omega), b0]
  · show S1 k < n ∧ rt_SK f n (if k = cnt + 1 then n else B k) (S1 k) ∧ rt_EN f n (S1 k) (if k + 1 = cnt + 1 then n else B (k + 1)) ∧ rt_KD f (S1 k) (if k + 1 = cnt + 1 then n else B (k + 1)) (T1 k)
    rw [if_neg (by omega), if_neg (by omega), hS k hk, hT k hk]
    exact b1 k hk
  · show rt_SK f n (if cnt = cnt + 1 then n else B cnt) (S1 cnt)
    rw [if_neg (by omega), hs]
    exact ⟨by omega, Int.le_refl _, fun x h1 h2 => b4 x h1 (by omega), fun z => absurd z.1 (by omega)⟩
  · show (if cnt + 1 = cnt + 1 then n else B (cnt + 1)) = n
    rw [if_pos rfl]
