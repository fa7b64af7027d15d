/-- how far the nearest of the first n cells is that a set has -/
def rt_nr (p : Int64) (c : Int) (n : Nat) : Int := match n with
  | 0 => 99
  | k + 1 => if rt_g p k = true ∧ rt_ap c k < rt_nr p c k then rt_ap c k else rt_nr p c k
theorem rt_nr_m {p : Int64} {c : Int} {k k1 a v w : Int32} (h : v.toInt = rt_nr p c k.toNatClampNeg) (h0 : 0 ≤ k.toInt) (h1 : k1.toInt = k.toInt + 1) (ha : a.toInt = rt_ap c k.toInt) (hw : (rt_g p k.toNatClampNeg = true ∧ a.toInt < v.toInt ∧ w.toInt = a.toInt) ∨ (¬ (rt_g p k.toNatClampNeg = true ∧ a.toInt < v.toInt) ∧ w.toInt = v.toInt)) : w.toInt = rt_nr p c k1.toNatClampNeg := by
  have e : (k.toNatClampNeg : Int) = k.toInt := by rw [Int32.toNatClampNeg]; omega
  rw [zi_tns h1 h0]
  show w.toInt = if rt_g p k.toNatClampNeg = true ∧ rt_ap c (k.toNatClampNeg : Int) < rt_nr p c k.toNatClampNeg then rt_ap c (k.toNatClampNeg : Int) else rt_nr p c k.toNatClampNeg
  rw [e, ← ha, ← h]
  rcases hw with ⟨a1, a2, a3⟩ | ⟨a1, a2⟩
  · rw [if_pos ⟨a1, a2⟩]
    exact a3
  · rw [if_neg a1]
    exact a2
theorem rt_nr_z {p : Int64} {c : Int} {k k1 v : Int32} (h : v.toInt = rt_nr p c k.toNatClampNeg) (h0 : 0 ≤ k.toInt) (h1 : k1.toInt = k.toInt + 1) (hg : ¬ rt_g p k.toNatClampNeg = true) : v.toInt = rt_nr p c k1.toNatClampNeg := by
  rw [zi_tns h1 h0]
  show v.toInt = if rt_g p k.toNatClampNeg = true ∧ rt_ap c (k.toNatClampNeg : Int) < rt_nr p c k.toNatClampNeg then rt_ap c (k.toNatClampNeg : Int) else rt_nr p c k.toNatClampNeg
  rw [if_neg (fun z => hg z.1)]
  exact h
/-- what the reference's go of seeker k and body b comes to -/
abbrev rt_GOM (M : fm_M) (k : Nat) (b : Int32) (v : Int32) : Prop := ∃ (f : Int32) (c : Nat) (S B T : Nat → Int) (V : Nat → Int32) (ft : Int) (d : List Int32) (n : Nat), f.toInt = rt_nr (rt_pm M b (M.1 60 0 0).toInt (M.1 60 0 0).toInt) (M.1 112 0 k).toInt 64 ∧ rt_TK (rt_mb M (160 * (M.1 60 0 56).toInt)) (M.1 154 0 (M.1 60 0 56).toNatClampNeg).toInt c S B T ∧ rt_NV (rt_mb M (160 * (M.1 60 0 56).toInt)) c S B T V ∧ rt_RT T S V ft d n ∧ (ft < 0 → rt_run (rt_n6 0 0 0 (M.1 60 0 0) (M.1 115 0 k) f) (d.drop n) [] = [v])
theorem rt_GOM_same {es : List Nat} {M u : fm_M} (s : fm_same es M u) (h : ∀ c ∈ ([151000, 153000, 154000, 60056, 60000, 115000, 60005, 60021, 102000, 103000, 104000, 110000, 111000, 112000, 117000, 118000, 119000, 120000] : List Nat), c ∉ es) {k : Nat} {b v : Int32} (g : rt_GOM u k b v) : rt_GOM M k b v := by
  have e56 := (s 60 0 56 (h _ (by decide))).1
  have e0 := (s 60 0 0 (h _ (by decide))).1
  have eb := rt_mbt s (fun c hc => h c (by simp only [List.mem_cons, List.not_mem_nil, or_false] at hc ⊢; omega)) (160 * (M.1 60 0 56).toInt)
  have e154 := (s 154 0 (M.1 60 0 56).toNatClampNeg (by rw [cd_154]; exact h _ (by decide))).1
  have e115 := (s 115 0 k (by rw [cd_115]; exact h _ (by decide))).1
  have e112 := (s 112 0 k (by rw [cd_112]; exact h _ (by decide))).1
  have ep := rt_pm_same s (fun c hc => h c (by simp only [List.mem_cons, List.not_mem_nil, or_false] at hc ⊢; omega)) (b := b) (x := (M.1 60 0 0).toInt) (kn := (M.1 60 0 0).toInt)
  obtain ⟨f, c, S, B, T, V, ft, d, n, g0, g1, g2, g3, g4⟩ := g
  rw [e0, ep, e112] at g0
  rw [e56, eb] at g1
  rw [e154] at g1
  rw [e56, eb] at g2
  rw [e0, e115] at g4
  exact ⟨f, c, S, B, T, V, ft, d, n, g0, g1, g2, g3, g4⟩
/-- the text in force on both sides -/
theorem rt_ord_u {M : fm_M} (eO : M.1 27 0 4 = M.1 60 0 56) (h0 : 0 ≤ (M.1 60 0 56).toInt) (hTR : rt_TR M (M.1 27 0 4).toNatClampNeg) {c : Nat} {S B T : Nat → Int} {V : Nat → Int32} {ft : Int} {d : List Int32} {n : Nat} (q1 : rt_TK (rt_mb M (160 * (M.1 60 0 56).toInt)) (M.1 154 0 (M.1 60 0 56).toNatClampNeg).toInt c S B T) (q2 : rt_NV (rt_mb M (160 * (M.1 60 0 56).toInt)) c S B T V) (q3 : rt_RT T S V ft d n) : ft < 0 ∧ d.take n = rt_part M (M.1 27 0 4).toNatClampNeg 0 ∧ d.drop n = rt_part M (M.1 27 0 4).toNatClampNeg 1 := by
  have eo : ((M.1 27 0 4).toNatClampNeg : Int) = (M.1 60 0 56).toInt := by
    rw [eO, Int32.toNatClampNeg]
    omega
  have hG := rt_TR_le hTR
  obtain ⟨c1, S1, B1, T1, V1, ft1, z1, q5, q6, q7⟩ := hTR
  rw [eo, eO] at q5
  rw [eo] at q6
  have e := rt_RT_tk (fun x _ _ => rfl) q5 q6 q1 q2 q7 q3
  refine ⟨by omega, ?_, ?_⟩
  · rw [← e.2.1, ← e.2.2, ← rt_part_t (p := 0) rfl hG]
  · rw [← e.2.1, ← e.2.2, ← rt_part_g (p := 1) (by decide) hG]
theorem rt_says_eq {nb : Nat} {M N : fm_M} {es : List Nat} {p0 p1 p2 : Int32} {r1 r2 : Int64} (s : fm_same es M N) (hs : ∀ c ∈ ([151000, 153000, 154000, 60056, 60000, 140000, 141000, 142000, 143000, 115000, 60044, 60016, 60005, 60021, 102000, 103000, 104000, 110000, 111000, 112000, 117000, 118000, 119000, 120000] : List Nat), c ∉ es) (h1 : ((p0.toInt = 0 ∧ 0 ≤ p1.toInt ∧ p1.toInt < (M.1 21 0 5).toInt) ∧ ∀ v : Int32, rt_run (rt_n6 (M.1 23 0 p1.toNatClampNeg) (M.1 24 0 p1.toNatClampNeg) (M.1 25 0 p1.toNatClampNeg) (M.1 0 0 9) (rt_fuC nb M p1) 0) (rt_part M (M.1 27 0 4).toNatClampNeg 0) [] = [v] → r1.toInt = v.toInt) ∨ (¬ (p0.toInt = 0 ∧ 0 ≤ p1.toInt ∧ p1.toInt < (M.1 21 0 5).toInt) ∧ ¬ (p0.toInt = 1 ∧ (0 ≤ p1.toInt ∧ p1.toInt < nb ∧ ((M.1 50 p1.toNatClampNeg 0).toInt = 2 ∨ (M.1 50 p1.toNatClampNeg 0).toInt = 5)) ∧ 0 ≤ p2.toInt ∧ p2.toInt < nb) ∧ r1 = -4611686018427387904) ∨ ((p0.toInt = 1 ∧ (0 ≤ p1.toInt ∧ p1.toInt < nb ∧ ((M.1 50 p1.toNatClampNeg 0).toInt = 2 ∨ (M.1 50 p1.toNatClampNeg 0).toInt = 5)) ∧ 0 ≤ p2.toInt ∧ p2.toInt < nb) ∧ ∃ f : Int32, f.toInt = rt_nr (rt_pcl M p2.toNatClampNeg (M.1 0 0 9).toInt) (M.1 50 p1.toNatClampNeg 1).toInt 64 ∧ ∀ v : Int32, rt_run (rt_n6 0 0 0 (M.1 0 0 9) (M.1 50 p1.toNatClampNeg 4) f) (rt_part M (M.1 27 0 4).toNatClampNeg 1) [] = [v] → r1.toInt = v.toInt)) (h2 : ((p0.toInt = 0 ∧ 0 ≤ p1.toInt ∧ p1.toInt < (N.1 60 0 44).toInt) ∧ ∃ w : Int32, r2.toInt = w.toInt ∧ rt_TKM N p1.toNatClampNeg w) ∨ (¬ (p0.toInt = 0 ∧ 0 ≤ p1.toInt ∧ p1.toInt < (N.1 60 0 44).toInt) ∧ ¬ (p0.toInt = 1 ∧ (0 ≤ p1.toInt ∧ p1.toInt < (N.1 60 0 16).toInt ∧ ((N.1 110 0 p1.toNatClampNeg).toInt = 2 ∨ (N.1 110 0 p1.toNatClampNeg).toInt = 5)) ∧ 0 ≤ p2.toInt ∧ p2.toInt < (N.1 60 0 16).toInt) ∧ r2 = -4611686018427387904) ∨ ((p0.toInt = 1 ∧ (0 ≤ p1.toInt ∧ p1.toInt < (N.1 60 0 16).toInt ∧ ((N.1 110 0 p1.toNatClampNeg).toInt = 2 ∨ (N.1 110 0 p1.toNatClampNeg).toInt = 5)) ∧ 0 ≤ p2.toInt ∧ p2.toInt < (N.1 60 0 16).toInt) ∧ ∃ w : Int32, r2.toInt = w.toInt ∧ rt_GOM N p1.toNatClampNeg p2 w)) (eB : (M.1 60 0 16).toInt = nb) (eN : M.1 0 0 9 = M.1 60 0 0) (eM : M.1 21 0 5 = M.1 60 0 44) (e22 : ∀ j : Nat, M.1 22 0 j = M.1 140 0 j) (e23 : ∀ j : Nat, M.1 23 0 j = M.1 141 0 j) (e24 : ∀ j : Nat, M.1 24 0 j = M.1 142 0 j) (e25 : ∀ j : Nat, M.1 25 0 j = M.1 143 0 j) (eF : ∀ j : Nat, j < nb → M.1 50 j 4 = M.1 115 0 j) (eK : ∀ j : Nat, j < nb → M.1 50 j 0 = M.1 110 0 j) (eS : ∀ j : Nat, j < nb → M.1 50 j 1 = M.1 112 0 j) (eO : M.1 27 0 4 = M.1 60 0 56) (h0 : 0 ≤ (M.1 60 0 56).toInt) (hTR : rt_TR M (M.1 27 0 4).toNatClampNeg) (hMB : ∀ k : Nat, (k : Int) < (M.1 21 0 5).toInt → 0 ≤ (M.1 22 0 k).toInt ∧ (M.1 22 0 k).toInt < nb) (hP : ∀ b : Int32, 0 ≤ b.toInt → b.toInt < nb → rt_pcl M b.toNatClampNeg (M.1 0 0 9).toInt = rt_pm M b (M.1 60 0 0).toInt (M.1 60 0 0).toInt) : r1 = r2 := by
  have f16 : (N.1 60 0 16).toInt = nb := by rw [(s 60 0 16 (hs _ (by decide))).1]; exact eB
  have f44 : (N.1 60 0 44).toInt = (M.1 21 0 5).toInt := by rw [(s 60 0 44 (hs _ (by decide))).1, eM]
  have f110 : ¬ (0 ≤ p1.toInt ∧ p1.toInt < nb) ∨ (N.1 110 0 p1.toNatClampNeg).toInt = (M.1 50 p1.toNatClampNeg 0).toInt := by
    by_cases g : 0 ≤ p1.toInt ∧ p1.toInt < nb
    · exact Or.inr (by rw [(s 110 0 _ (by rw [cd_110]; exact hs _ (by decide))).1, eK _ (zi_cln g)])
    · exact Or.inl g
  rcases h1 with ⟨a1, a2⟩ | ⟨a1, a2, a3⟩ | ⟨a1, f, a2, a3⟩
  · rcases h2 with ⟨g1, w, g2, g3⟩ | ⟨g1, _⟩ | ⟨g1, _⟩
    · obtain ⟨c, S, B, T, V, ft, d, n, q1, q2, q3, q4⟩ := rt_TKM_same s (fun c hc => hs c (by simp only [List.mem_cons, List.not_mem_nil, or_false] at hc ⊢; omega)) g3
      obtain ⟨u1, u2, u3⟩ := rt_ord_u eO h0 hTR q1 q2 q3
      have v := q4 u1
      rw [u2] at v
      have kk : (p1.toNatClampNeg : Int) = p1.toInt := by rw [Int32.toNatClampNeg]; omega
      have mb := hMB p1.toNatClampNeg (by omega)
      have fu : rt_fuC nb M p1 = M.1 115 0 (M.1 140 0 p1.toNatClampNeg).toNatClampNeg := by
        unfold rt_fuC
        rw [if_pos mb, eF (M.1 22 0 p1.toNatClampNeg).toNatClampNeg (zi_cln mb), e22 p1.toNatClampNeg]
      refine (fa_eq64 _ _).mpr ?_
      rw [g2]
      exact a2 w (by rw [e23 p1.toNatClampNeg, e24 p1.toNatClampNeg, e25 p1.toNatClampNeg, eN, fu]; exact v)
    · exfalso; omega
    · exfalso; omega
  · rcases h2 with ⟨g1, _⟩ | ⟨g1, g2, g3⟩ | ⟨g1, _⟩
    · exfalso; omega
    · rw [a3, g3]
    · exfalso; omega
  · rcases h2 with ⟨g1, _⟩ | ⟨g1, g2, g3⟩ | ⟨g1, w, g2, g3⟩
    · exfalso; omega
    · exfalso; omega
    · obtain ⟨k, c, S, B, T, V, ft, d, n, q0, q1, q2, q3, q4⟩ := rt_GOM_same s (fun c hc => hs c (by simp only [List.mem_cons, List.not_mem_nil, or_false] at hc ⊢; omega)) g3
      obtain ⟨u1, u2, u3⟩ := rt_ord_u eO h0 hTR q1 q2 q3
      have v := q4 u1
      rw [u3] at v
      have l1 : p1.toNatClampNeg < nb := zi_cln ⟨a1.2.1.1, a1.2.1.2.1⟩
      have ek : f = k := (fa_eq _ _).mpr (by rw [a2, q0, hP p2 a1.2.2.1 a1.2.2.2, eS _ l1])
      refine (fa_eq64 _ _).mpr ?_
      rw [g2]
      exact a3 w (by rw [ek, eN, eF _ l1]; exact v)
