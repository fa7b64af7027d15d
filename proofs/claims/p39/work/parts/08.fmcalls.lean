
theorem fm_wL_1 {M : fm_M} {q k j : Nat} {x : Int64} : (fm_wL M q k j x).1 = M.1 := rfl
theorem fm_wI_21 {M : fm_M} {q k j : Nat} {x : Int32} : (fm_wI M q k j x).2.1 = M.2.1 := rfl
theorem fm_wI_22 {M : fm_M} {q k j : Nat} {x : Int32} : (fm_wI M q k j x).2.2 = M.2.2 := rfl
theorem fm_wL_22 {M : fm_M} {q k j : Nat} {x : Int64} : (fm_wL M q k j x).2.2 = M.2.2 := rfl
theorem fm_wA_21 {M : fm_M} {q k : Nat} {f : Nat → Int32} : (fm_wA M q k f).2.1 = M.2.1 := rfl
theorem fm_wA_22 {M : fm_M} {q k : Nat} {f : Nat → Int32} : (fm_wA M q k f).2.2 = M.2.2 := rfl
theorem fm_copy {p : Program} {l : Launch} {e : Env} {R : Room} {s : State} {m : MethodId} {args : Array Value} {below : List Frame} {meth : Method} {c : Code} {H : Heap} {locs : List Loc} {cells slots : Nat} {Q : State → Prop} {cc : ByteArray} {pc : Nat} {ls : Array Slot} {rest : List Value} {D : va_G} {ad : Nat → Nat → Nat} {C : Nat → Nat → ClassId} {nb : Nat} {M M0 : fm_M} {A : Nat → Prop} {H0 : Heap} {es : List Nat} (hexec : p.tables.exec = Jvm.exec) (hb : c.code = cc) (hml : c.maxLocals = ls.size) {own : String} {index : Nat} (hown : s.vm.findClass own = some m.cls) (hlink : (Cond.methodLink own index arraycopyName).before args s = true) (hnat : (Cond.native arraycopyName).before args s = true) (hstat : (Cond.static arraycopyName).before args s = true) (hini : (Cond.initialized "java/lang/System").before args s = true)
    (hc : fm_Cx D ad C nb A s) (hw : fm_at D ad C nb M H) (hI : fm_I nb ad M) (hE : fm_same es M0 M) (hS : va_S A H0 H locs) {a k n0 b j n1 : Nat} (hk : k < fm_ct nb a) (hsh : fm_sh a = (0, n0, [])) (hty : fm_ty a = .int) {lo up : Int} (hbd : ∀ i, fm_b a i = (lo, up)) (hj : j < fm_ct nb b) (hsh2 : fm_sh b = (0, n1, [])) (hty2 : fm_ty b = .int) (hbd2 : ∀ i, fm_b b i = (lo, up))
    {sp dp n : Int32} {zs zd zn : Int} (es1 : sp.toInt = zs) (ed1 : dp.toInt = zd) (en1 : n.toInt = zn) (h1 : 0 ≤ zs ∧ 0 ≤ zd ∧ 0 ≤ zn ∧ zs + zn ≤ n0 ∧ zd + zn ≤ n1) (hframes : 1 ≤ R.frames) (hlocals : (rest.map fun v => v.category).sum + (nativeFrameWords "java/lang/System" "arraycopy" 5 + 11) ≤ R.locals) {cdn : Nat} (hcd : ∀ j, fm_cd b j = cdn) (hcn : cdn ∈ es) (hdg : decode cc pc = .ok (.invokestatic index, 3))
    (kk : ∀ (M1 : fm_M) (H1 : Heap) (locs1 : List Loc), M1 = fm_wA M b j (va_cpy (M.1 a k) (M.1 b j) sp.toNatClampNeg dp.toNatClampNeg n.toNatClampNeg) → fm_at D ad C nb M1 H1 → fm_I nb ad M1 → fm_same es M0 M1 → va_S A H0 H1 locs1 → W p l e R s m args below meth c H1 locs1 cells slots Q (F0 m (pc + 3) ls rest)) : W p l e R s m args below meth c H locs cells slots Q (F0 m pc ls (.int n :: .int dp :: .ref (ad b j) :: .int sp :: .ref (ad a k) :: rest)) := by
  have e0 : (0 : Int32).toInt = 0 := rfl
  have g1 : ¬ sp < 0 := fun q => by have := (fa_lt _ _).mp q; omega
  have g2 : ¬ dp < 0 := fun q => by have := (fa_lt _ _).mp q; omega
  have g3 : ¬ n < 0 := fun q => by have := (fa_lt _ _).mp q; omega
  have g4 : sp.toNatClampNeg + n.toNatClampNeg ≤ n0 := by rw [Int32.toNatClampNeg, Int32.toNatClampNeg]; omega
  have g5 : dp.toNatClampNeg + n.toNatClampNeg ≤ n1 := by rw [Int32.toNatClampNeg, Int32.toNatClampNeg]; omega
  intro T hT X
  have hc0 : H[ad a k]? = some (vp_cell (C a k) (n0, .inl (M.1 a k))) := by have h := hw a k hk; rw [hsh] at h; exact h
  have hc1 : H[ad b j]? = some (vp_cell (C b j) (n1, .inl (M.1 b j))) := by have h := hw b j hj; rw [hsh2] at h; exact h
  have ha0 := (hc.2.1.2 a k hk (by rw [hsh]; exact (by decide : (0 : Nat) < 3))).1
  have ha1 := (hc.2.1.2 b j hj (by rw [hsh2]; exact (by decide : (0 : Nat) < 3))).1
  rw [hty] at ha0
  rw [hty2] at ha1
  obtain ⟨-, k0, hk0, cm0, hkk0⟩ := ha0 n0 (fun i => .int (M.1 a k i))
  obtain ⟨-, k1, hk1, cm1, hkk1⟩ := ha1 n1 (fun i => .int (M.1 b j i))
  obtain ⟨vm', X', step⟩ := X.arraycopy hexec hown hlink hnat hstat hini (src := ad a k) (dst := ad b j) (cs := vp_cell (C a k) (n0, .inl (M.1 a k))) (cd := vp_cell (C b j) (n1, .inl (M.1 b j))) (srcPos := sp) (destPos := dp) (n := n) (by rw [hT]; exact hc0) (by rw [hT]; exact hc1)
    (fun _ h => by cases h) (fun _ h => by cases h) (fun h => by cases h) (fun h => by cases h) hk0 hk1 hkk0 hkk1 (by simp [refKind]) g1 g2 g3
    (by show ¬ _ > ((arrV (C a k) n0 (fun i => .int (M.1 a k i))).slots.size : Int); rw [arrV_size]; omega)
    (by show ¬ _ > ((arrV (C b j) n1 (fun i => .int (M.1 b j i))).slots.size : Int); rw [arrV_size]; omega)
    (fun vm₁ _ i hi => by
      have e9 : (vp_cell (C a k) (n0, .inl (M.1 a k))).slots.getD (sp.toNatClampNeg + i) .null = .int (M.1 a k (sp.toNatClampNeg + i)) := by
        show (arrV (C a k) n0 (fun i => .int (M.1 a k i))).slots.getD _ _ = _
        rw [Array.getD_eq_getD_getElem?, arrV_read _ _ (by omega)]
        rfl
      refine ⟨?_, ?_⟩
      · rw [e9]
        rfl
      · rw [e9]
        exact trivial)
    (g := F0 m pc ls (.int n :: .int dp :: .ref (ad b j) :: .int sp :: .ref (ad a k) :: rest)) rfl (by rw [hml]) (rest := rest) rfl (by rw [hb]; exact hdg) hframes (by show 2 * 0 + _ + _ ≤ _; omega)
  have e1 : copied (vp_cell (C a k) (n0, .inl (M.1 a k))) (vp_cell (C b j) (n1, .inl (M.1 b j))) sp dp n = vp_cell (C b j) (n1, .inl (va_cpy (M.1 a k) (M.1 b j) sp.toNatClampNeg dp.toNatClampNeg n.toNatClampNeg)) := va_copied (fun z => .int z) (C a k) (C b j) (M.1 a k) (M.1 b j) g4
  rw [e1] at X' step
  have hl : ad b j < H.size := (Array.getElem?_eq_some_iff.mp hc1).1
  generalize hcell : vp_cell (C b j) (n1, .inl (va_cpy (M.1 a k) (M.1 b j) sp.toNatClampNeg dp.toNatClampNeg n.toNatClampNeg)) = cell at X' step
  have hheap : ((T.setVm vm').setCell (ad b j) cell).heap = H.setIfInBounds (ad b j) cell := by rw [← hT]; rfl
  have oq : ∀ q : Nat, q ≠ ad b j → (H.setIfInBounds (ad b j) cell)[q]? = H[q]? := fun q hq => by simp [Array.getElem?_setIfInBounds, Ne.symm hq]
  have hAd : A (ad b j) := hc.2.2.2.2.2 _ ⟨b, j, hj, rfl⟩
  obtain ⟨t, a1, b1⟩ := kk (fm_wA M b j (va_cpy (M.1 a k) (M.1 b j) sp.toNatClampNeg dp.toNatClampNeg n.toNatClampNeg)) (H.setIfInBounds (ad b j) cell) _ rfl (hw.set hc.1 hj oq (by
      rw [hsh2, fm_wA_at]
      show (H.setIfInBounds (ad b j) cell)[ad b j]? = some (vp_cell _ _)
      rw [hcell]
      simp [Array.getElem?_setIfInBounds, hl]) (fun x i hxi => ⟨fm_wA_ne hxi, rfl, rfl⟩)) (hI.wA (fun q => by rw [← q] at hsh2; exact absurd (show (3 : Nat) = 0 from congrArg (fun z => z.1) hsh2) (by decide)) (fun i => by
      rw [hbd2]
      have p1 := hI.1 b j i
      rw [hbd2] at p1
      unfold va_cpy
      by_cases hz : dp.toNatClampNeg ≤ i ∧ i < dp.toNatClampNeg + n.toNatClampNeg
      · rw [if_pos hz]
        have p2 := hI.1 a k (sp.toNatClampNeg + (i - dp.toNatClampNeg))
        rw [hbd] at p2
        exact p2
      · rw [if_neg hz]
        exact p1)) (hE.wA (fun i => by rw [hcd]; exact hcn)) ⟨by simp; exact hS.1, fun q g6 g7 => by
      rw [oq q (fun e8 => g7 (by rw [e8]; exact hAd))]
      exact hS.2.1 q g6 g7, fun q hq => by
      rcases List.mem_append.mp hq with h | h
      · exact hS.2.2 q h
      · obtain ⟨z, -, hz⟩ := List.mem_map.mp h
        rw [← hz]
        exact hAd⟩ _ hheap X'
  exact ⟨t, step t a1, b1⟩

theorem fm_K.moved {D : va_G} {C : Nat → Nat → ClassId} {nb : Nat} {u U : State} (hvm : u.vm.Alike U.vm) (h : fm_K D C nb u) : fm_K D C nb U := ⟨va_K.moved hvm h.1, fun a k hk ht => ⟨arrOfT_moved hvm (h.2 a k hk ht).1, (h.2 a k hk ht).2.moved hvm⟩⟩
theorem fm_blind {D : va_G} {ad : Nat → Nat → Nat} {C : Nat → Nat → ClassId} {nb : Nat} {M : fm_M} {av : List Value} : FrameBlind (va_Pc av (fm_P D ad C nb M)) := fun a U g mk q => by
  obtain ⟨q0, qP, q1, q2, q3, q4, q5, q6⟩ := q
  exact ⟨q0, qP, q1, fm_K.moved (u := U) (U := U.calling g mk a) (Vm.Alike.refl U.vm) q2, rt_E.same rfl q3, rt_T.same q4, rt_SS.same q5, q6⟩
theorem fm_pre {D : va_G} {ad : Nat → Nat → Nat} {C : Nat → Nat → ClassId} {nb : Nat} {M : fm_M} {av : List Value} {A : Nat → Prop} {s : State} {H : Heap} {locs : List Loc} (hc : fm_Cx D ad C nb A s) (hw : fm_at D ad C nb M H) (hS : va_S A s.heap H locs) : ∀ U : State, U.heap = H → s.WarmedH U.vm → va_Pc av (fm_P D ad C nb M) av.toArray U := fun U hU hW => by
  obtain ⟨c1, c2, c3, c4, c5, c6⟩ := hc
  exact ⟨rfl, by rw [hU]; exact hw, c1, c2.moved hW.alike, rt_E.warm hW c3, rt_T.give c4 hS c6 hU hW.alike, rt_SS.give c5 hS c6 hU hW, fun q h => h⟩
theorem fm_preS {D : va_G} {ad : Nat → Nat → Nat} {C : Nat → Nat → ClassId} {nb : Nat} {M : fm_M} {av : List Value} {A : Nat → Prop} {s : State} {H : Heap} {locs : List Loc} (hc : fm_Cx D ad C nb A s) (hw : fm_at D ad C nb M H) (hS : va_S A s.heap H locs) : PreS s H (va_Pc av (fm_P D ad C nb M)) av := ⟨fm_blind, fm_pre hc hw hS⟩
theorem fm_preV {D : va_G} {ad : Nat → Nat → Nat} {C : Nat → Nat → ClassId} {nb : Nat} {M : fm_M} {av : List Value} {A : Nat → Prop} {s : State} {H : Heap} {locs : List Loc} (hc : fm_Cx D ad C nb A s) (hw : fm_at D ad C nb M H) (hS : va_S A s.heap H locs) {a k ci : Nat} {fl : List (Nat × Nat)} {E : String} {q : u_T × Nat} (hk : k < fm_ct nb a) (hsh : fm_sh a = (3, ci, fl)) (hcl : vwCl[ci]? = some (E, q)) : PreV s H E (ad a k) (va_Pc (.ref (ad a k) :: av) (fm_P D ad C nb M)) av :=
  ⟨fm_blind, va_recv (q := (E, q)) hc.2.1.1 (hw.one hk (x := .inr (ci, fl.map (fm_fv (M.1 a k) (M.2.1 a k) (M.2.2 a k)))) (by rw [hsh]; rfl)) hcl (q0 := 0) rfl, fm_pre hc hw hS⟩
section
variable {p : Program} {l : Launch} {e : Env} {R : Room} {s : State} {m : MethodId} {args : Array Value} {below : List Frame} {meth : Method} {c : Code} {H : Heap} {locs : List Loc} {cells slots : Nat} {Q : State → Prop} {pc : Nat} {ls : Array Slot} {rest st0 : List Value}
variable {D : va_G} {ad : Nat → Nat → Nat} {C : Nat → Nat → ClassId} {nb : Nat} {M M0 : fm_M} {A : Nat → Prop} {H0 : Heap} {a : Array Value}
theorem fm_ci {post : Int32 → fm_M → Prop} (hr : va_Run p l e R s m args below meth c H locs cells slots 0 0 (F0 m pc ls st0) rest (va_Qi post (fun u t => fm_at D ad C nb u t.heap) (fm_A nb ad) a) (fm_A nb ad)) (hS : va_S A H0 H locs) (hc : fm_Cx D ad C nb A s)
    (kk : ∀ (r : Int32) (M1 : fm_M) (H1 : Heap) (locs1 : List Loc), post r M1 → fm_at D ad C nb M1 H1 → va_S A H0 H1 locs1 → W p l e R s m args below meth c H1 locs1 cells slots Q (F0 m (pc + 3) ls (.int r :: rest))) : W p l e R s m args below meth c H locs cells slots Q (F0 m pc ls st0) :=
  va_calli hr hS (fun q _ h => hc.2.2.2.2.2 q h) (fun q h => hc.2.2.2.2.2 q h) (fun r u t H1 locs1 ht _ hp hB _ _ hS1 => kk r u H1 locs1 hp (by rw [← ht]; exact hB) hS1)
theorem fm_cl {post : Int64 → fm_M → Prop} (hr : va_Run p l e R s m args below meth c H locs cells slots 0 0 (F0 m pc ls st0) rest (va_Ql post (fun u t => fm_at D ad C nb u t.heap) (fm_A nb ad) a) (fm_A nb ad)) (hS : va_S A H0 H locs) (hc : fm_Cx D ad C nb A s)
    (kk : ∀ (r : Int64) (M1 : fm_M) (H1 : Heap) (locs1 : List Loc), post r M1 → fm_at D ad C nb M1 H1 → va_S A H0 H1 locs1 → W p l e R s m args below meth c H1 locs1 cells slots Q (F0 m (pc + 3) ls (.long r :: rest))) : W p l e R s m args below meth c H locs cells slots Q (F0 m pc ls st0) :=
  va_calll hr hS (fun q _ h => hc.2.2.2.2.2 q h) (fun q h => hc.2.2.2.2.2 q h) (fun r u t H1 locs1 ht _ hp hB _ _ hS1 => kk r u H1 locs1 hp (by rw [← ht]; exact hB) hS1)
theorem fm_cv {post : fm_M → Prop} (hr : va_Run p l e R s m args below meth c H locs cells slots 0 0 (F0 m pc ls st0) rest (va_Qv post (fun u t => fm_at D ad C nb u t.heap) (fm_A nb ad) a) (fm_A nb ad)) (hS : va_S A H0 H locs) (hc : fm_Cx D ad C nb A s)
    (kk : ∀ (M1 : fm_M) (H1 : Heap) (locs1 : List Loc), post M1 → fm_at D ad C nb M1 H1 → va_S A H0 H1 locs1 → W p l e R s m args below meth c H1 locs1 cells slots Q (F0 m (pc + 3) ls rest)) : W p l e R s m args below meth c H locs cells slots Q (F0 m pc ls st0) :=
  va_callv hr hS (fun q _ h => hc.2.2.2.2.2 q h) (fun q h => hc.2.2.2.2.2 q h) (fun u t H1 locs1 ht _ hp hB _ _ hS1 => kk u H1 locs1 hp (by rw [← ht]; exact hB) hS1)
end
