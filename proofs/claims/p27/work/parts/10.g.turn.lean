theorem rt_first_eq {nb : Nat} {M N : fm_M} {es : List Nat} {p0 p1 r1 r2 : Int32} (s : fm_same es M N) (hs : ∀ c ∈ ([151000, 153000, 154000, 60056, 60000, 140000, 141000, 142000, 143000, 115000, 60044, 60016] : List Nat), c ∉ es) (h1 : (¬ (0 ≤ p0.toInt ∧ p0.toInt < nb) ∧ r1.toInt = -2) ∨ ((0 ≤ p0.toInt ∧ p0.toInt < nb) ∧ ∃ t : Nat → Int, (∀ k : Nat, (k : Int) < (M.1 21 0 5).toInt → ∀ v : Int32, rt_run (rt_n6 (M.1 23 0 k) (M.1 24 0 k) (M.1 25 0 k) (M.1 0 0 9) (rt_fuK nb M k) 0) (rt_part M (M.1 27 0 4).toNatClampNeg 0) [] = [v] → t k = v.toInt) ∧ ((r1.toInt = -1 ∧ ∀ k : Nat, k < (M.1 21 0 5).toNatClampNeg → (M.1 22 0 k).toInt = p0.toInt → ¬ ((rt_rk (fun j : Nat => (M.1 22 0 j).toInt) t p0.toInt k (M.1 21 0 5).toNatClampNeg : Nat) : Int) = p1.toInt) ∨ (0 ≤ r1.toInt ∧ r1.toInt < (M.1 21 0 5).toInt ∧ (M.1 22 0 r1.toInt.toNat).toInt = p0.toInt ∧ ((rt_rk (fun j : Nat => (M.1 22 0 j).toInt) t p0.toInt r1.toInt.toNat (M.1 21 0 5).toNatClampNeg : Nat) : Int) = p1.toInt)))) (h2 : (¬ (0 ≤ p0.toInt ∧ p0.toInt < (N.1 60 0 16).toInt) ∧ r2.toInt = -2) ∨ ((0 ≤ p0.toInt ∧ p0.toInt < (N.1 60 0 16).toInt) ∧ ∃ (t : Nat → Int32) (A : Nat → Nat) (c : Nat), (∀ k : Nat, (k : Int) < (N.1 60 0 44).toInt → (N.1 140 0 k).toInt = p0.toInt → rt_TKM N k (t k)) ∧ rt_row (fun j : Nat => (N.1 140 0 j).toInt) (fun j : Nat => (t j).toInt) p0.toInt A c (N.1 60 0 44).toNatClampNeg ∧ r2.toInt = if 0 ≤ p1.toInt ∧ p1.toInt < c then (A p1.toInt.toNat : Int) else -1)) (eB : (M.1 60 0 16).toInt = nb) (eN : M.1 0 0 9 = M.1 60 0 0) (eM : M.1 21 0 5 = M.1 60 0 44) (e22 : ∀ j : Nat, M.1 22 0 j = M.1 140 0 j) (e23 : ∀ j : Nat, M.1 23 0 j = M.1 141 0 j) (e24 : ∀ j : Nat, M.1 24 0 j = M.1 142 0 j) (e25 : ∀ j : Nat, M.1 25 0 j = M.1 143 0 j) (eF : ∀ j : Nat, j < nb → M.1 50 j 4 = M.1 115 0 j) (eO : M.1 27 0 4 = M.1 60 0 56) (h0 : 0 ≤ (M.1 60 0 56).toInt) (hm : 0 ≤ (M.1 21 0 5).toInt) (hTR : rt_TR M (M.1 27 0 4).toNatClampNeg) : r1.toInt = r2.toInt := by
  have f16 : (N.1 60 0 16).toInt = nb := by rw [(s 60 0 16 (hs _ (by decide))).1]; exact eB
  have f44 : N.1 60 0 44 = M.1 21 0 5 := by rw [(s 60 0 44 (hs _ (by decide))).1, eM]
  have f140 : ∀ j : Nat, N.1 140 0 j = M.1 22 0 j := fun j => by rw [(s 140 0 j (by rw [cd_140]; exact hs _ (by decide))).1, e22 j]
  rcases h1 with ⟨a1, a2⟩ | ⟨a1, t, a2, a3⟩
  · rcases h2 with ⟨g1, g2⟩ | ⟨g1, _⟩
    · omega
    · exfalso; omega
  · rcases h2 with ⟨g1, _⟩ | ⟨g1, w, A, c, g2, g3, g4⟩
    · exfalso; omega
    · have eo : ((M.1 27 0 4).toNatClampNeg : Int) = (M.1 60 0 56).toInt := by
        rw [eO, Int32.toNatClampNeg]
        omega
      have men : ((M.1 21 0 5).toNatClampNeg : Int) = (M.1 21 0 5).toInt := by
        rw [Int32.toNatClampNeg]
        omega
      have key : ∀ k : Nat, k < (M.1 21 0 5).toNatClampNeg → (M.1 22 0 k).toInt = p0.toInt → (w k).toInt = t k := by
        intro k hk hb
        have q := rt_TKM_same s (fun c hc => hs c (by simp only [List.mem_cons, List.not_mem_nil, or_false] at hc ⊢; omega)) (g2 k (by rw [f44]; omega) (by rw [f140 k]; exact hb))
        obtain ⟨c2, S2, B2, T2, V2, ft2, d2, n2, q1, q2, q3, q4⟩ := q
        have hG := rt_TR_le hTR
        obtain ⟨c1, S1, B1, T1, V1, ft1, z1, q5, q6, q7⟩ := hTR
        rw [eo, eO] at q5
        rw [eo] at q6
        have e := rt_RT_tk (fun x _ _ => rfl) q5 q6 q1 q2 q7 q3
        have v := q4 (by omega)
        rw [← e.2.1, ← e.2.2, ← rt_part_t (p := 0) rfl hG] at v
        have fu : rt_fuK nb M k = M.1 115 0 (M.1 140 0 k).toNatClampNeg := by
          unfold rt_fuK
          rw [if_pos (by omega), eF (M.1 22 0 k).toNatClampNeg (zi_cln (by omega)), e22 k]
        exact (a2 k (by omega) (w k) (by rw [e23 k, e24 k, e25 k, eN, fu]; exact v)).symm
      have eb : (fun j : Nat => (N.1 140 0 j).toInt) = (fun j : Nat => (M.1 22 0 j).toInt) := funext fun j => by rw [f140 j]
      rw [eb, f44] at g3
      rw [g4]
      refine rt_turn (b := fun j : Nat => (M.1 22 0 j).toInt) (t := t) (s := fun j : Nat => (w j).toInt) (x := p0.toInt) (i := p1.toInt) (r := r1.toInt) (A := A) (c := c) (n := (M.1 21 0 5).toNatClampNeg) key g3 ?_ (fun k hk hb => rt_rk_t _ key (key k hk hb))
      rcases a3 with x1 | ⟨x1, x2, x3, x4⟩
      · exact Or.inl x1
      · exact Or.inr ⟨x1, by omega, x3, x4⟩
theorem rt_textc_eq {Ma Mb Mc : fm_M} {r1 r2 : Int32} (h1 : (6 ≤ (Ma.1 27 0 3).toInt ∧ r1.toInt = -4 ∧ Mb = Ma) ∨ ((Ma.1 27 0 3).toInt < 6 ∧ (Mb.1 27 0 1).toInt = 0 ∧ ∃ (c : Nat) (S B T : Nat → Int) (V : Nat → Int32) (ft : Int) (d : List Int32) (n : Nat), rt_TK (rt_tb Ma) (Ma.1 27 0 1).toInt c S B T ∧ rt_NV (rt_tb Ma) c S B T V ∧ rt_RT T S V ft d n ∧ ((0 ≤ ft ∧ r1.toInt = -100 - ft ∧ (Mb.1 27 0 3).toInt = (Ma.1 27 0 3).toInt ∧ (∀ i : Nat, rt_kt Mb i = rt_kt Ma i)) ∨ (ft < 0 ∧ r1.toInt = (Ma.1 27 0 3).toInt ∧ (Mb.1 27 0 3).toInt = (Ma.1 27 0 3).toInt + 1 ∧ (∀ i : Nat, rt_kt Mb i = if i = (Ma.1 27 0 3).toNatClampNeg then (d, n) else rt_kt Ma i))))) (h2 : (6 ≤ (Mb.1 60 0 55).toInt ∧ r2.toInt = -4 ∧ Mc = Mb) ∨ ((Mb.1 60 0 55).toInt < 6 ∧ (Mc.1 60 0 52).toInt = 0 ∧ ∃ (c : Nat) (S B T : Nat → Int) (V : Nat → Int32) (ft : Int) (d : List Int32) (n : Nat), rt_TK (rt_mb Mb (-1)) (Mb.1 60 0 52).toInt c S B T ∧ rt_NV (rt_mb Mb (-1)) c S B T V ∧ rt_RT T S V ft d n ∧ ((0 ≤ ft ∧ r2.toInt = -100 - ft ∧ (Mc.1 60 0 55).toInt = (Mb.1 60 0 55).toInt ∧ (∀ j : Nat, Mc.1 153 0 j = Mb.1 153 0 j) ∧ (∀ j : Nat, Mc.1 154 0 j = Mb.1 154 0 j)) ∨ (ft < 0 ∧ r2.toInt = (Mb.1 60 0 55).toInt ∧ (Mc.1 60 0 55).toInt = (Mb.1 60 0 55).toInt + 1 ∧ (∀ j : Nat, Mc.1 153 0 j = rt_tx Mb (160 * (Mb.1 60 0 55).toInt) (Mb.1 60 0 52).toInt j) ∧ (∀ j : Nat, Mc.1 154 0 j = if j = (Mb.1 60 0 55).toNatClampNeg then Mb.1 60 0 52 else Mb.1 154 0 j))))) (e52 : (Mb.1 60 0 52).toInt = (Ma.1 27 0 1).toInt) (e55 : (Mb.1 60 0 55).toInt = (Ma.1 27 0 3).toInt) (eb : ∀ j : Nat, Mb.1 151 0 j = Ma.1 28 0 j) (f1 : (Mc.1 27 0 1).toInt = (Mb.1 27 0 1).toInt) (f3 : (Mc.1 27 0 3).toInt = (Mb.1 27 0 3).toInt) (fc : ∀ i : Nat, rt_kt Mc i = rt_kt Mb i) (f153 : ∀ j : Nat, Mb.1 153 0 j = Ma.1 153 0 j) (f154 : ∀ j : Nat, Mb.1 154 0 j = Ma.1 154 0 j) (b0 : 0 ≤ (Ma.1 27 0 3).toInt) (b52 : 0 ≤ (Mb.1 60 0 52).toInt) (b154 : ∀ j : Nat, (Ma.1 154 0 j).toInt ≤ 160) (hTR : ∀ k : Nat, (k : Int) < (Ma.1 27 0 3).toInt → rt_TR Ma k) : (r1.toInt = r2.toInt ∧ (Mc.1 27 0 1).toInt = (Mc.1 60 0 52).toInt ∧ (Mc.1 27 0 3).toInt = (Mc.1 60 0 55).toInt) ∧ (∀ k : Nat, (k : Int) < (Mc.1 27 0 3).toInt → rt_TR Mc k) ∧ (Ma.1 27 0 3).toInt ≤ (Mc.1 27 0 3).toInt := by
  have hf : ∀ x : Int, 0 ≤ x → x < (Ma.1 27 0 1).toInt → rt_mb Mb (-1) x = rt_tb Ma x := by
    intro x _ _
    unfold rt_mb rt_tb
    rw [if_pos (by decide), eb]
  have same : (∀ j : Nat, Mc.1 153 0 j = Mb.1 153 0 j) → (∀ j : Nat, Mc.1 154 0 j = Mb.1 154 0 j) → (∀ i : Nat, rt_kt Mb i = rt_kt Ma i) → ∀ k : Nat, (k : Int) < (Ma.1 27 0 3).toInt → rt_TR Mc k := by
    intro k3 k4 kc k hk
    refine rt_TR_f (hTR k hk) (by rw [k4, f154]) (fun x _ _ => ?_) (by rw [fc, kc])
    unfold rt_mb
    rw [if_neg (by omega), if_neg (by omega), k3, f153]
  rcases h1 with ⟨a1, a2, a3⟩ | ⟨a1, a2, c, S, B, T, V, ft, d, n, a3, aV, a4, a5⟩
  · rcases h2 with ⟨g1, g2, g3⟩ | ⟨g1, g2, _⟩
    · have q1 : (Mb.1 27 0 1).toInt = (Ma.1 27 0 1).toInt := by rw [a3]
      have q3 : (Mb.1 27 0 3).toInt = (Ma.1 27 0 3).toInt := by rw [a3]
      have k1 : (Mc.1 60 0 52).toInt = (Mb.1 60 0 52).toInt := by rw [g3]
      have k3 : (Mc.1 60 0 55).toInt = (Mb.1 60 0 55).toInt := by rw [g3]
      exact ⟨⟨by omega, by omega, by omega⟩, fun k hk => same (fun j => by rw [g3]) (fun j => by rw [g3]) (fun i => by rw [a3]) k (by omega), by omega⟩
    · exfalso; omega
  · rcases h2 with ⟨g1, g2, g3⟩ | ⟨g1, g2, c', S', B', T', V', fu, d', n', g3, gV, g4, g5⟩
    · exfalso; omega
    · have g3' := g3
      rw [e52] at g3'
      have e := rt_RT_tk hf a3 aV g3' gV a4 g4
      rcases a5 with ⟨a5, a6, a7, a8⟩ | ⟨a5, a6, a7, a8⟩
      · rcases g5 with ⟨g5, g6, g7, g8, g9⟩ | ⟨g5, _⟩
        · exact ⟨⟨by omega, by omega, by omega⟩, fun k hk => same g8 g9 a8 k (by omega), by omega⟩
        · exfalso; omega
      · rcases g5 with ⟨g5, _⟩ | ⟨g5, g6, g7, g8, g9⟩
        · exfalso; omega
        · refine ⟨⟨by omega, by omega, by omega⟩, fun k hk => ?_, by omega⟩
          have en : (Mb.1 60 0 55).toNatClampNeg = (Ma.1 27 0 3).toNatClampNeg := by rw [Int32.toNatClampNeg, Int32.toNatClampNeg, e55]
          have nn : ((Ma.1 27 0 3).toNatClampNeg : Int) = (Ma.1 27 0 3).toInt := by
            rw [Int32.toNatClampNeg]
            omega
          by_cases ek : k = (Ma.1 27 0 3).toNatClampNeg
          · have ec : rt_kt Mc k = (d, n) := by rw [fc, a8, if_pos ek]
            have e4 : Mc.1 154 0 k = Mb.1 60 0 52 := by rw [g9, en, if_pos ek]
            have ef : ∀ x : Int, 0 ≤ x → x < (Mb.1 60 0 52).toInt → rt_mb Mc (160 * k) x = rt_mb Mb (-1) x := by
              intro x x0 x1
              unfold rt_mb
              rw [if_neg (by omega), if_pos (by decide), g8]
              unfold rt_tx
              rw [if_pos (by omega), show (160 * (k : Int) + x).toNat - (160 * (Mb.1 60 0 55).toInt).toNat = x.toNat by omega]
            refine ⟨c', S', B', T', V', fu, g5, ?_, ?_, ?_⟩
            · rw [e4]
              exact rt_TK_f ef g3
            · intro j hj h12
              have e1 := (g3.2.1 j hj).2.2.1
              have e3 := e1.2.1
              have e5 := (g3.2.1 j hj).2.1.1
              have b0 : 0 ≤ B' j := rt_TK_B g3 (by omega)
              rw [gV j hj h12]
              exact (rt_nm_f (fun i hi => ef _ (by omega) (by omega))).symm
            · rw [ec]
              show rt_RT T' S' V' fu d n
              rw [e.2.1, e.2.2]
              exact g4
          · have hk2 : (k : Int) < (Ma.1 27 0 3).toInt := by omega
            refine rt_TR_f (hTR k hk2) (by rw [g9, en, if_neg ek, f154]) (fun x x0 x1 => ?_) (by rw [fc, a8, if_neg ek])
            have bb := b154 k
            unfold rt_mb
            rw [if_neg (by omega), if_neg (by omega), g8]
            unfold rt_tx
            rw [if_neg (by omega), f153]
/-- the first text: its bytes, its tokens, its steps -/
def rt_L0 : List Int32 := [116, 97, 107, 101, 32, 104, 117, 114, 116, 32, 42, 32, 50, 32, 45, 32, 115, 116, 114, 101, 110, 103, 116, 104, 32, 59, 32, 103, 111, 32, 102, 97, 114, 32, 42, 32, 54, 32, 60, 32, 102, 117, 101, 108, 32, 59]
def rt_G0 : List Int32 := [-2, 2, -18, -1, -17, -6, 6, -18, -5, -14]
set_option maxRecDepth 20000 in
theorem rt_L0_ch : ∀ j : Nat, j < 46 → rt_ch (rt_L0.getD j 0) = rt_L0.getD j 0 := by decide +kernel
def rt_f0 (x : Int) : Int := (rt_L0.getD x.toNat 0).toInt
def rt_S0 (k : Nat) : Int := ([0, 5, 10, 12, 14, 16, 25, 27, 30, 34, 36, 38, 40, 45, 46] : List Int).getD k 0
def rt_B0 (k : Nat) : Int := ([0, 4, 9, 11, 13, 15, 24, 26, 29, 33, 35, 37, 39, 44, 46, 46] : List Int).getD k 0
def rt_T0 (k : Nat) : Int := ([7, 2, 42, 12, 45, 1, 59, 8, 6, 42, 12, 60, 5, 59, 0] : List Int).getD k 0
def rt_V0 (k : Nat) : Int32 := ([0, 0, 0, 2, 0, 0, 0, 0, 0, 0, 6, 0, 0, 0, 0] : List Int32).getD k 0
theorem rt_SK_d {f : Int → Int} {n p q : Int} (h1 : p ≤ q) (h2 : q ≤ n) (h3 : q = p ∨ (q = p + 1 ∧ rt_isB (f p))) (h4 : ¬ (q < n ∧ rt_isB (f q))) : rt_SK f n p q := by
  refine ⟨h1, h2, fun x a b => ?_, h4⟩
  rcases h3 with h | ⟨h, g⟩
  · exfalso; omega
  · rw [show x = p by omega]
    exact g
theorem rt_T0_s : ∀ k : Nat, k < 14 → (rt_S0 k < 46 ∧ rt_B0 k ≤ rt_S0 k ∧ rt_S0 k ≤ 46 ∧ rt_S0 k < rt_B0 (k + 1) ∧ rt_B0 (k + 1) ≤ 46 ∧ 1 ≤ rt_T0 k) := by decide +kernel
theorem rt_T0_k : ∀ k : Nat, k < 14 → (rt_S0 k = rt_B0 k ∨ (rt_S0 k = rt_B0 k + 1 ∧ rt_isB (rt_f0 (rt_B0 k)))) := by decide +kernel
theorem rt_T0_b : ∀ k : Nat, k < 14 → ¬ (rt_S0 k < 46 ∧ rt_isB (rt_f0 (rt_S0 k))) := by decide +kernel
theorem rt_T0_w : ∀ k : Nat, k < 14 → rt_T0 k ≤ 11 → (rt_isL (rt_f0 (rt_S0 k)) ∧ rt_B0 (k + 1) ≤ rt_S0 k + 8 ∧ ¬ (rt_B0 (k + 1) < 46 ∧ rt_isL (rt_f0 (rt_B0 (k + 1)))) ∧ rt_B0 (k + 1) - rt_S0 k = (rt_W (rt_T0 k).toNat).length) := by decide +kernel
theorem rt_T0_l : ∀ k : Fin 14, ∀ i : Fin 8, rt_T0 k.1 ≤ 11 → rt_S0 k.1 + (i.1 : Int) < rt_B0 (k.1 + 1) → rt_isL (rt_f0 (rt_S0 k.1 + (i.1 : Int))) := by decide +kernel
theorem rt_T0_m : ∀ k : Fin 14, ∀ i : Fin 8, rt_T0 k.1 ≤ 11 → i.1 < (rt_W (rt_T0 k.1).toNat).length → rt_f0 (rt_S0 k.1 + (i.1 : Int)) = ((rt_W (rt_T0 k.1).toNat).getD i.1 0).toInt := by decide +kernel
theorem rt_T0_n : ∀ k : Nat, k < 14 → rt_T0 k = 12 → (rt_isD (rt_f0 (rt_S0 k)) ∧ rt_B0 (k + 1) = rt_S0 k + 1 ∧ ¬ (rt_B0 (k + 1) < 46 ∧ rt_isD (rt_f0 (rt_B0 (k + 1))))) := by decide +kernel
theorem rt_T0_g : ∀ k : Nat, k < 14 → 12 < rt_T0 k → (¬ rt_isL (rt_f0 (rt_S0 k)) ∧ ¬ rt_isD (rt_f0 (rt_S0 k)) ∧ rt_B0 (k + 1) = rt_S0 k + 1 ∧ rt_isG (rt_f0 (rt_S0 k)) ∧ rt_T0 k = rt_f0 (rt_S0 k)) := by decide +kernel
theorem rt_TK0 : rt_TK rt_f0 46 14 rt_S0 rt_B0 rt_T0 := by
  refine ⟨by decide +kernel, fun k hk => ?_, rt_SK_d (by decide +kernel) (by decide +kernel) (by decide +kernel) (by decide +kernel), by decide +kernel, by decide +kernel, by decide +kernel⟩
  obtain ⟨h1, a1, a2, b1, b2, b3⟩ := rt_T0_s k hk
  refine ⟨h1, rt_SK_d a1 a2 (rt_T0_k k hk) (rt_T0_b k hk), ⟨b1, b2, ?_⟩, ?_⟩
  · rcases (show rt_T0 k ≤ 11 ∨ rt_T0 k = 12 ∨ 12 < rt_T0 k by omega) with g | g | g
    · obtain ⟨c1, c2, c3, c4⟩ := rt_T0_w k hk g
      refine Or.inl ⟨c1, fun x x1 x2 => ?_, c3⟩
      have z := rt_T0_l ⟨k, hk⟩ ⟨(x - rt_S0 k).toNat, by omega⟩ g (show rt_S0 k + (((x - rt_S0 k).toNat : Nat) : Int) < rt_B0 (k + 1) by omega)
      have z : rt_isL (rt_f0 (rt_S0 k + (((x - rt_S0 k).toNat : Nat) : Int))) := z
      rw [show rt_S0 k + (((x - rt_S0 k).toNat : Nat) : Int) = x by omega] at z
      exact z
    · obtain ⟨c1, c2, c3⟩ := rt_T0_n k hk g
      refine Or.inr (Or.inl ⟨c1, fun x x1 x2 => ?_, c3⟩)
      rw [show x = rt_S0 k by omega]
      exact c1
    · obtain ⟨c1, c2, c3, c4, c5⟩ := rt_T0_g k hk g
      exact Or.inr (Or.inr ⟨c1, c2, c3⟩)
  · rcases (show rt_T0 k ≤ 11 ∨ rt_T0 k = 12 ∨ 12 < rt_T0 k by omega) with g | g | g
    · obtain ⟨c1, c2, c3, c4⟩ := rt_T0_w k hk g
      exact Or.inl ⟨c1, Or.inl ⟨(rt_T0 k).toNat, by omega, by omega, by omega, c4, fun j hj => rt_T0_m ⟨k, hk⟩ ⟨j, by omega⟩ g hj⟩⟩
    · obtain ⟨c1, c2, c3⟩ := rt_T0_n k hk g
      exact Or.inr (Or.inl ⟨c1, Or.inl ⟨by omega, g⟩⟩)
    · obtain ⟨c1, c2, c3, c4, c5⟩ := rt_T0_g k hk g
      exact Or.inr (Or.inr ⟨c1, c2, Or.inl ⟨c4, c5⟩⟩)
theorem rt_NV0 : rt_NV rt_f0 14 rt_S0 rt_B0 rt_T0 rt_V0 := by
  unfold rt_NV
  decide +kernel
set_option maxRecDepth 20000 in
theorem rt_RT0 : rt_RT rt_T0 rt_S0 rt_V0 (-1) rt_G0 5 := ⟨(6, -1, [-2, 2, -18, -1, -17]), (13, -1, rt_G0), ⟨30, by decide +kernel⟩, ⟨30, by decide +kernel⟩, by decide +kernel, rfl, rfl⟩
theorem rt_TR0 {M : fm_M} (h153 : ∀ j : Nat, j < 46 → M.1 153 0 j = rt_L0.getD j 0) (h154 : M.1 154 0 0 = 46) (h1 : M.1 48 0 1 = 10) (h2 : M.1 48 0 2 = 5) (h49 : ∀ j : Nat, j < 10 → M.1 49 0 j = rt_G0.getD j 0) : rt_TR M 0 := by
  have e0 : rt_seg (M.1 49 0) 0 10 = rt_seg (fun j : Nat => rt_G0.getD j 0) 0 10 := rt_seg_e (fun i hi => by rw [Nat.zero_add]; exact h49 i hi)
  have e : rt_kt M 0 = (rt_G0, 5) := by
    unfold rt_kt
    rw [h1, h2, show (10 : Int32).toNatClampNeg = 10 from rfl, show (5 : Int32).toNatClampNeg = 5 from rfl, e0]
    decide +kernel
  have ef : ∀ x : Int, 0 ≤ x → x < 46 → rt_mb M (160 * ((0 : Nat) : Int)) x = rt_f0 x := by
    intro x x0 x1
    unfold rt_mb rt_f0
    rw [if_neg (by omega), show (160 * ((0 : Nat) : Int) + x).toNat = x.toNat by omega, h153 x.toNat (by omega)]
  refine ⟨14, rt_S0, rt_B0, rt_T0, rt_V0, -1, by decide, ?_, ?_, ?_⟩
  · rw [h154]
    show rt_TK (rt_mb M (160 * ((0 : Nat) : Int))) 46 14 rt_S0 rt_B0 rt_T0
    exact rt_TK_f ef rt_TK0
  · intro j hj h12
    have e1 := (rt_TK0.2.1 j hj).2.2.1
    have e3 := e1.2.1
    have e4 := (rt_TK0.2.1 j hj).2.1.1
    have b0 : 0 ≤ rt_B0 j := rt_TK_B rt_TK0 (by omega)
    rw [rt_NV0 j hj h12]
    exact (rt_nm_f (fun i hi => ef _ (by omega) (by omega))).symm
  · rw [e]
    exact rt_RT0
/-- the same, by the places alone -/
theorem rt_TR_h {M u : fm_M} (h153 : ∀ j : Nat, u.1 153 0 j = M.1 153 0 j) (h154 : ∀ j : Nat, u.1 154 0 j = M.1 154 0 j) (h1 : ∀ i : Nat, u.1 48 i 1 = M.1 48 i 1) (h2 : ∀ i : Nat, u.1 48 i 2 = M.1 48 i 2) (h49 : ∀ i j : Nat, u.1 49 i j = M.1 49 i j) {k : Nat} (g : rt_TR M k) : rt_TR u k := by
  refine rt_TR_f g (h154 k) (fun x _ _ => ?_) ?_
  · unfold rt_mb
    rw [if_neg (by omega), if_neg (by omega), h153]
  · have e : u.1 49 k = M.1 49 k := funext fun i => h49 k i
    unfold rt_kt
    rw [e, h1 k, h2 k]
