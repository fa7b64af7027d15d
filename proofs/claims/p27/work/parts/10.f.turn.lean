/-- what the reference's take of man k comes to -/
abbrev rt_TKM (M : fm_M) (k : Nat) (v : Int32) : Prop := ∃ (c : Nat) (S B T : Nat → Int) (V : Nat → Int32) (ft : Int) (d : List Int32) (n : Nat), rt_TK (rt_mb M (160 * (M.1 60 0 56).toInt)) (M.1 154 0 (M.1 60 0 56).toNatClampNeg).toInt c S B T ∧ rt_NV (rt_mb M (160 * (M.1 60 0 56).toInt)) c S B T V ∧ rt_RT T S V ft d n ∧ (ft < 0 → rt_run (rt_n6 (M.1 141 0 k) (M.1 142 0 k) (M.1 143 0 k) (M.1 60 0 0) (M.1 115 0 (M.1 140 0 k).toNatClampNeg) 0) (d.take n) [] = [v])
theorem rt_TKM_same {es : List Nat} {M u : fm_M} (s : fm_same es M u) (h : ∀ c ∈ ([151000, 153000, 154000, 60056, 60000, 140000, 141000, 142000, 143000, 115000] : List Nat), c ∉ es) {k : Nat} {v : Int32} (g : rt_TKM u k v) : rt_TKM M k v := by
  have e56 := (s 60 0 56 (h _ (by decide))).1
  have e0 := (s 60 0 0 (h _ (by decide))).1
  have eb := rt_mbt s (fun c hc => h c (by simp only [List.mem_cons, List.not_mem_nil, or_false] at hc ⊢; omega)) (160 * (M.1 60 0 56).toInt)
  have e154 := (s 154 0 (M.1 60 0 56).toNatClampNeg (by rw [cd_154]; exact h _ (by decide))).1
  have e141 := (s 141 0 k (by rw [cd_141]; exact h _ (by decide))).1
  have e142 := (s 142 0 k (by rw [cd_142]; exact h _ (by decide))).1
  have e143 := (s 143 0 k (by rw [cd_143]; exact h _ (by decide))).1
  have e140 := (s 140 0 k (by rw [cd_140]; exact h _ (by decide))).1
  have e115 := (s 115 0 (M.1 140 0 k).toNatClampNeg (by rw [cd_115]; exact h _ (by decide))).1
  obtain ⟨c, S, B, T, V, ft, d, n, g1, g2, g3, g4⟩ := g
  rw [e56, eb] at g1
  rw [e154] at g1
  rw [e56, eb] at g2
  rw [e141, e142, e143, e0, e140, e115] at g4
  exact ⟨c, S, B, T, V, ft, d, n, g1, g2, g3, g4⟩
theorem rt_row_t {b t s : Nat → Int} {x : Int} {A : Nat → Nat} {c m : Nat} (h : rt_row b t x A c m) (e : ∀ j : Nat, j < m → s j = t j) : rt_row b s x A c m := by
  obtain ⟨h1, h2, h3⟩ := h
  refine ⟨h1, fun p hp => ?_, fun k hk hx => ?_⟩
  · obtain ⟨a1, a2, a3⟩ := h2 p hp
    have q := rt_rk_t (b := b) (t := t) (s := s) (x := x) (k := A p) m (fun j hj _ => e j hj) (e _ a1)
    exact ⟨a1, a2, q.trans a3⟩
  · have q := rt_rk_t (b := b) (t := t) (s := s) (x := x) (k := k) m (fun j hj _ => e j hj) (e _ hk)
    rw [q]
    exact h3 k hk hx
/-- the reference puts man m into his place: A the row before, T the takes before, B the row now, U the takes now, x the place reached -/
def rt_IN (A T B U : Nat → Int32) (c m : Nat) (v : Int32) (x : Int) : Prop := 0 ≤ x ∧ x ≤ c ∧ (∀ q : Nat, B q = if x < q ∧ q ≤ c then A (q - 1) else A q) ∧ (∀ q : Nat, U q = if q = m then v else T q) ∧ (∀ q : Nat, x ≤ q → q < c → (T (A q).toNatClampNeg).toInt < v.toInt)
theorem rt_IN_0 {A T B U : Nat → Int32} {c m : Nat} {v : Int32} {x : Int} (hx : x = c) (hB : ∀ q : Nat, B q = A q) (hU : ∀ q : Nat, U q = if q = m then v else T q) : rt_IN A T B U c m v x :=
  ⟨by omega, by omega, fun q => by rw [hB q, if_neg (by omega)], hU, fun q h1 h2 => absurd h2 (by omega)⟩
theorem rt_IN_s {A T B U C U' : Nat → Int32} {c m : Nat} {v a ta tm w x y z z2 : Int32} (h : rt_IN A T B U c m v x.toInt) (hA : ∀ q : Nat, q < c → (A q).toNatClampNeg < m) (hx : 0 < x.toInt) (hz : z.toInt = x.toInt - 1) (ha : a = B z.toNatClampNeg) (hta : ta = U a.toNatClampNeg) (htm : tm = U m) (hlt : ta.toInt < tm.toInt) (hz2 : z2.toInt = x.toInt - 1) (hw : w = B z2.toNatClampNeg) (hC : ∀ q : Nat, C q = if q = x.toNatClampNeg then w else B q) (hU : ∀ q : Nat, U' q = U q) (hy : y.toInt = x.toInt - 1) : rt_IN A T C U' c m v y.toInt := by
  obtain ⟨h1, h2, h3, h4, h5⟩ := h
  have ez : z.toNatClampNeg = (x.toInt - 1).toNat := by rw [Int32.toNatClampNeg, hz]
  have ez2 : z2.toNatClampNeg = (x.toInt - 1).toNat := by rw [Int32.toNatClampNeg, hz2]
  have eB : B (x.toInt - 1).toNat = A (x.toInt - 1).toNat := by rw [h3 (x.toInt - 1).toNat, if_neg (by omega)]
  refine ⟨by omega, by omega, fun q => ?_, fun q => by rw [hU q]; exact h4 q, fun q g1 g2 => ?_⟩
  · rw [hC q]
    by_cases g : q = x.toNatClampNeg
    · have gq : (q : Int) = x.toInt := by
        rw [g, Int32.toNatClampNeg]
        omega
      rw [if_pos g, hw, ez2, eB, if_pos (by omega)]
      exact congrArg A (by omega)
    · have gn : ¬ (q : Int) = x.toInt := fun e => g (by rw [Int32.toNatClampNeg]; omega)
      rw [if_neg g, h3 q]
      by_cases k : x.toInt < q ∧ q ≤ c
      · rw [if_pos k, if_pos (by omega)]
      · rw [if_neg k, if_neg (by omega)]
  · rcases Int.lt_or_le (q : Int) x.toInt with g | g
    · have e : q = (x.toInt - 1).toNat := by omega
      have e1 : a = A q := by rw [ha, ez, eB, e]
      have l := hA q g2
      have e2 : ta = T (A q).toNatClampNeg := by rw [hta, e1, h4 (A q).toNatClampNeg, if_neg (by omega)]
      have e3 : tm = v := by rw [htm, h4 m, if_pos rfl]
      rw [← e2, ← e3]
      exact hlt
    · exact h5 q g g2
theorem rt_IN_e {b : Nat → Int} {X : Int} {A T B U C U' : Nat → Int32} {c m : Nat} {v mi x : Int32} (h : rt_IN A T B U c m v x.toInt) (hr : rt_row b (fun j : Nat => (T j).toInt) X (fun q : Nat => (A q).toNatClampNeg) c m) (hb : b m = X) (hz : x.toInt ≤ 0 ∨ ∃ z a ta tm : Int32, z.toInt = x.toInt - 1 ∧ a = B z.toNatClampNeg ∧ ta = U a.toNatClampNeg ∧ tm = U m ∧ tm.toInt ≤ ta.toInt) (hm : mi.toNatClampNeg = m) (hC : ∀ q : Nat, C q = if q = x.toNatClampNeg then mi else B q) (hU : ∀ q : Nat, U' q = U q) : rt_row b (fun j : Nat => (U' j).toInt) X (fun q : Nat => (C q).toNatClampNeg) (c + 1) (m + 1) := by
  obtain ⟨h1, h2, h3, h4, h5⟩ := h
  have hA : ∀ q : Nat, q < c → (A q).toNatClampNeg < m := fun q hq => (hr.2.1 q hq).1
  have eU : ∀ j : Nat, ¬ j = m → U' j = T j := fun j hj => by rw [hU j, h4 j, if_neg hj]
  have em : U' m = v := by rw [hU m, h4 m, if_pos rfl]
  have hr2 : rt_row b (fun j : Nat => (U' j).toInt) X (fun q : Nat => (A q).toNatClampNeg) c m := rt_row_t hr (fun j hj => by
    show (U' j).toInt = (T j).toInt
    rw [eU j (by omega)])
  have exx : (x.toNatClampNeg : Int) = x.toInt := by
    rw [Int32.toNatClampNeg]
    omega
  refine rt_row_ins (p := x.toNatClampNeg) hr2 hb (by omega) (fun q g1 g2 => ?_) ?_ (fun q g => ?_) ?_ (fun q g1 g2 => ?_)
  · show (U' (A q).toNatClampNeg).toInt < (U' m).toInt
    have l := hA q g2
    rw [em, eU (A q).toNatClampNeg (by omega)]
    exact h5 q (by omega) g2
  · rcases hz with g | ⟨z, a, ta, tm, g1, g2, g3, g4, g5⟩
    · exact Or.inl (by omega)
    · rcases (show x.toInt ≤ 0 ∨ 0 < x.toInt by omega) with k | k
      · exact Or.inl (by omega)
      · refine Or.inr ?_
        show (U' m).toInt ≤ (U' (A (x.toNatClampNeg - 1)).toNatClampNeg).toInt
        have e0 : z.toNatClampNeg = x.toNatClampNeg - 1 := by
          rw [Int32.toNatClampNeg, Int32.toNatClampNeg]
          omega
        have e1 : a = A (x.toNatClampNeg - 1) := by rw [g2, e0, h3 (x.toNatClampNeg - 1), if_neg (by omega)]
        have l := hA (x.toNatClampNeg - 1) (by omega)
        have e2 : ta = T (A (x.toNatClampNeg - 1)).toNatClampNeg := by rw [g3, e1, h4 (A (x.toNatClampNeg - 1)).toNatClampNeg, if_neg (by omega)]
        have e3 : tm = v := by rw [g4, h4 m, if_pos rfl]
        rw [em, eU (A (x.toNatClampNeg - 1)).toNatClampNeg (by omega), ← e2, ← e3]
        exact g5
  · show (C q).toNatClampNeg = (A q).toNatClampNeg
    rw [hC q, if_neg (by omega), h3 q, if_neg (by omega)]
  · show (C x.toNatClampNeg).toNatClampNeg = m
    rw [hC x.toNatClampNeg, if_pos rfl]
    exact hm
  · show (C (q + 1)).toNatClampNeg = (A q).toNatClampNeg
    rw [hC (q + 1), if_neg (by omega), h3 (q + 1), if_pos (by omega), Nat.add_sub_cancel]
/-- reading never takes steps back -/
theorem rt_em_l {x : Int32} {s : rt_Z} : s.2.2.length ≤ (rt_em x s).2.2.length := by
  show s.2.2.length ≤ (s.2.2 ++ [x]).length
  rw [List.length_append]
  exact Nat.le_add_right _ _
theorem rt_pst_n {T S : Nat → Int} {V : Nat → Int32} {P : Nat → Int → rt_Z → Option rt_Z} (h : ∀ (n : Nat) (o : Int) (s r : rt_Z), P n o s = some r → s.2.2.length ≤ r.2.2.length) {nt : Nat} {o : Int} {s r : rt_Z} (hp : rt_pst T S V P nt o s = some r) : s.2.2.length ≤ r.2.2.length := by
  have b1 : ∀ (a : Nat) (p : Int) (t : rt_Z) (f : rt_Z → Option rt_Z), (P a p t).bind f = some r → s.2.2.length ≤ t.2.2.length → (∀ z : rt_Z, f z = some r → z.2.2.length ≤ r.2.2.length) → s.2.2.length ≤ r.2.2.length := by
    intro a p t f hp ht hf
    obtain ⟨z, h1, h2⟩ := Option.bind_eq_some_iff.mp hp
    exact Nat.le_trans ht (Nat.le_trans (h _ _ _ _ h1) (hf z h2))
  have em : ∀ (a : Nat) (p : Int) (x : Int32) (z : rt_Z), P a p (rt_em x z) = some r → z.2.2.length ≤ r.2.2.length := fun a p x z g => Nat.le_trans rt_em_l (h _ _ _ _ g)
  have es : ∀ (x : Int32) (z : rt_Z), some (rt_em x z) = some r → z.2.2.length ≤ r.2.2.length := by
    intro x z g
    rw [← Option.some.inj g]
    exact rt_em_l
  have id0 : ∀ a : rt_Z, s.2.2.length ≤ a.2.2.length → some a = some r → s.2.2.length ≤ r.2.2.length := by
    intro a e g
    rw [← Option.some.inj g]
    exact e
  have lr : s.2.2.length ≤ s.2.2.length := Nat.le_refl _
  have la : s.2.2.length ≤ (rt_adv T s).2.2.length := Nat.le_refl _
  match nt, hp with
  | 0, hp => exact b1 _ _ _ _ hp lr (fun z g => h _ _ _ _ g)
  | 1, hp =>
    have hp : (if s.2.1 < 0 ∧ T s.1 = 9 then (P 2 o (rt_adv T s)).bind (fun z => P 1 o (rt_em (-11) z)) else some s) = some r := hp
    split at hp
    · exact b1 _ _ _ _ hp la (fun z g => em _ _ _ z g)
    · exact id0 _ lr hp
  | 2, hp => exact b1 _ _ _ _ hp lr (fun z g => h _ _ _ _ g)
  | 3, hp =>
    have hp : (if s.2.1 < 0 ∧ T s.1 = 10 then (P 4 o (rt_adv T s)).bind (fun z => P 3 o (rt_em (-12) z)) else some s) = some r := hp
    split at hp
    · exact b1 _ _ _ _ hp la (fun z g => em _ _ _ z g)
    · exact id0 _ lr hp
  | 4, hp =>
    have hp : (if s.2.1 < 0 ∧ T s.1 = 11 then (if 5 ≤ o then some (rt_fail S s) else (P 4 (o + 1) (rt_adv T s)).bind (fun z => some (rt_em (-13) z))) else P 5 o s) = some r := hp
    split at hp
    · split at hp
      · exact id0 _ (show s.2.2.length ≤ (rt_fail S s).2.2.length from Nat.le_refl _) hp
      · exact b1 _ _ _ _ hp la (fun z g => es _ z g)
    · exact h _ _ _ _ hp
  | 5, hp => exact b1 _ _ _ _ hp lr (fun z g => h _ _ _ _ g)
  | 6, hp => exact b1 _ _ _ _ hp lr (fun z g => h _ _ _ _ g)
  | 7, hp =>
    have hp : (if s.2.1 < 0 ∧ (T s.1 = 43 ∨ T s.1 = 45) then (P 8 o (rt_adv T s)).bind (fun z => P 7 o (rt_em (if T s.1 = 43 then -16 else -17) z)) else some s) = some r := hp
    by_cases g : s.2.1 < 0 ∧ (T s.1 = 43 ∨ T s.1 = 45)
    · rw [if_pos g] at hp
      exact b1 _ _ _ _ hp la (fun z g => em _ _ _ z g)
    · rw [if_neg g] at hp
      exact id0 _ lr hp
  | 8, hp => exact b1 _ _ _ _ hp lr (fun z g => h _ _ _ _ g)
  | 9, hp =>
    have hp : (if s.2.1 < 0 ∧ T s.1 = 42 then (P 10 o (rt_adv T s)).bind (fun z => P 9 o (rt_em (-18) z)) else some s) = some r := hp
    split at hp
    · exact b1 _ _ _ _ hp la (fun z g => em _ _ _ z g)
    · exact id0 _ lr hp
  | 10, hp =>
    have hp : (if s.2.1 < 0 ∧ (T s.1 = 12 ∨ (0 < T s.1 ∧ T s.1 ≤ 6)) then some (rt_adv T (rt_em (rt_v1 T V s.1) s)) else if (s.2.1 < 0 ∧ T s.1 = 45) ∧ o < 5 then (P 10 (o + 1) (rt_adv T s)).bind (fun z => some (rt_em (-19) z)) else if (s.2.1 < 0 ∧ T s.1 = 40) ∧ o < 5 then (P 0 (o + 1) (rt_adv T s)).bind (P 12 o) else some (rt_fail S s)) = some r := hp
    split at hp
    · exact id0 (rt_adv T (rt_em (rt_v1 T V s.1) s)) (show s.2.2.length ≤ (rt_em (rt_v1 T V s.1) s).2.2.length from rt_em_l) hp
    · split at hp
      · exact b1 _ _ _ _ hp la (fun z g => es _ z g)
      · split at hp
        · exact b1 _ _ _ _ hp la (fun z g => h _ _ _ _ g)
        · exact id0 _ (show s.2.2.length ≤ (rt_fail S s).2.2.length from Nat.le_refl _) hp
  | 11, hp =>
    have hp : (if s.2.1 < 0 ∧ (T s.1 = 60 ∨ T s.1 = 61) then (P 6 o (rt_adv T s)).bind (fun z => some (rt_em (if T s.1 = 60 then -14 else -15) z)) else some s) = some r := hp
    by_cases g : s.2.1 < 0 ∧ (T s.1 = 60 ∨ T s.1 = 61)
    · rw [if_pos g] at hp
      exact b1 _ _ _ _ hp la (fun z g => es _ z g)
    · rw [if_neg g] at hp
      exact id0 _ lr hp
  | _ + 12, hp => exact id0 (rt_need T S 41 s) (by rw [rt_need_cd]; exact Nat.le_refl _) hp
theorem rt_ps_n {T S : Nat → Int} {V : Nat → Int32} {F : Nat} : ∀ {nt : Nat} {o : Int} {s r : rt_Z}, rt_ps T S V F nt o s = some r → s.2.2.length ≤ r.2.2.length := by
  induction F with
  | zero => exact fun h => absurd h (by intro z; cases z)
  | succ F ih => exact fun h => rt_pst_n (P := rt_ps T S V F) (fun _ _ _ _ a => ih a) h
theorem rt_PS_n {T S : Nat → Int} {V : Nat → Int32} {nt : Nat} {o : Int} {s r : rt_Z} (h : rt_PS T S V nt o s r) : s.2.2.length ≤ r.2.2.length := by
  obtain ⟨F, hF⟩ := h
  exact rt_ps_n hF
theorem rt_RT_le {T S : Nat → Int} {V : Nat → Int32} {r : Int} {d : List Int32} {n : Nat} (h : rt_RT T S V r d n) : n ≤ d.length := by
  obtain ⟨s2, s5, h2, h5, hr, hd, hn⟩ := h
  have l := rt_PS_n h5
  rw [rt_need_cd, rt_need_cd] at l
  rw [hd, hn]
  exact l
theorem rt_TR_le {M : fm_M} {k : Nat} (h : rt_TR M k) : (M.1 48 k 2).toNatClampNeg ≤ (M.1 48 k 1).toNatClampNeg := by
  obtain ⟨c, S, B, T, V, ft, _, _, _, h4⟩ := h
  have l := rt_RT_le h4
  have e : (rt_kt M k).1.length = (M.1 48 k 1).toNatClampNeg := rt_seg_l
  rw [e] at l
  exact l
/-- the same bytes, the same text -/
theorem rt_TR_f {M u : fm_M} {k : Nat} (h : rt_TR M k) (hn : u.1 154 0 k = M.1 154 0 k) (hf : ∀ x : Int, 0 ≤ x → x < (M.1 154 0 k).toInt → rt_mb u (160 * k) x = rt_mb M (160 * k) x) (hc : rt_kt u k = rt_kt M k) : rt_TR u k := by
  obtain ⟨c, S, B, T, V, ft, h0, h1, h2, h3⟩ := h
  refine ⟨c, S, B, T, V, ft, h0, ?_, ?_, ?_⟩
  · rw [hn]
    exact rt_TK_f hf h1
  · intro j hj h12
    have e1 := (h1.2.1 j hj).2.2.1
    have e3 := e1.2.1
    have e4 := (h1.2.1 j hj).2.1.1
    have b0 : 0 ≤ B j := rt_TK_B h1 (by omega)
    rw [h2 j hj h12]
    exact (rt_nm_f (fun i hi => hf _ (by omega) (by omega))).symm
  · rw [hc]
    exact h3
theorem rt_mb_j {es : List Nat} {M u : fm_M} (s : fm_same es M u) (h : 153000 ∉ es) (k : Nat) (x : Int) : rt_mb u (160 * k) x = rt_mb M (160 * k) x := by
  unfold rt_mb
  rw [if_neg (by omega), if_neg (by omega), (s 153 0 _ (by rw [cd_153]; exact h)).1]
theorem rt_TR_same {es : List Nat} {M u : fm_M} (s : fm_same es M u) (h : ∀ c ∈ ([153000, 154000, 48001, 48002, 49000] : List Nat), c ∉ es) {k : Nat} (g : rt_TR M k) : rt_TR u k :=
  rt_TR_f g (s 154 0 k (by rw [cd_154]; exact h _ (by decide))).1 (fun x _ _ => rt_mb_j s (h _ (by decide)) k x) (rt_ct_same s (fun c hc => h c (by simp only [List.mem_cons, List.not_mem_nil, or_false] at hc ⊢; omega)) k)
