
section
variable {p : Program} {l : Launch} {e : Env} {R : Room} {s : State} {m : MethodId} {args : Array Value} {below : List Frame} {meth : Method} {c : Code} {H : Heap} {locs : List Loc} {cells slots : Nat} {Q : State → Prop} {cc : ByteArray} {pc : Nat} {ls : Array Slot} {rest : List Value}
variable {D : va_G} {ad : Nat → Nat → Nat} {C : Nat → Nat → ClassId} {nb : Nat} {M M0 : fm_M} {A : Nat → Prop} {H0 : Heap} {es : List Nat}
theorem fm_at.one (hw : fm_at D ad C nb M H) {a k : Nat} (hk : k < fm_ct nb a) {x : va_E} (hx : fm_e (C a k) (M.1 a k) (M.2.1 a k) (M.2.2 a k) (fm_sh a) = x) : va_P D vwCl [(ad a k, x)] H := by
  intro i q hq
  have hz : i < 1 := (List.getElem?_eq_some_iff.mp hq).1
  rw [show i = 0 by omega] at hq
  cases hq
  rw [← hx]
  exact hw a k hk
theorem fm_Kone (hc : fm_Cx D ad C nb A s) {a k : Nat} (hk : k < fm_ct nb a) (ht : (fm_sh a).1 < 3) {ty : FieldType} (hy : fm_ty a = ty) : va_K D vwCl [(C a k, ty)] s := by
  refine ⟨hc.2.1.1.1, fun i q hq => ?_⟩
  have hz : i < 1 := (List.getElem?_eq_some_iff.mp hq).1
  rw [show i = 0 by omega] at hq
  cases hq
  rw [← hy]
  exact hc.2.1.2 a k hk ht
theorem fm_in {i : Int32} {n : Nat} (h : 0 ≤ i.toInt ∧ i.toInt < n) : vp_in i n := by
  unfold vp_in
  rw [fa_lt, Int32.toNatClampNeg]
  simp only [Int32.reduceToInt]
  omega
/-- a changed cell -/
theorem fm_at.set (hw : fm_at D ad C nb M H) (hj : fm_inj ad nb) {a k : Nat} (hk : k < fm_ct nb a) {M1 : fm_M} {H1 : Heap} (oq : ∀ q : Nat, q ≠ ad a k → H1[q]? = H[q]?) (h1 : va_at D vwCl (ad a k, fm_e (C a k) (M1.1 a k) (M1.2.1 a k) (M1.2.2 a k) (fm_sh a)) H1) (hr : ∀ b j : Nat, ¬ (b = a ∧ j = k) → M1.1 b j = M.1 b j ∧ M1.2.1 b j = M.2.1 b j ∧ M1.2.2 b j = M.2.2 b j) : fm_at D ad C nb M1 H1 := by
  intro b j hbj
  by_cases z : b = a ∧ j = k
  · obtain ⟨rfl, rfl⟩ := z
    exact h1
  · obtain ⟨r1, r2, r3⟩ := hr b j z
    rw [r1, r2, r3]
    exact (hw b j hbj).kept (oq _ (fun q => z (hj b j a k hbj hk q)))
theorem fm_iald (hexec : p.tables.exec = Jvm.exec) (hb : c.code = cc) (hc : fm_Cx D ad C nb A s) (hw : fm_at D ad C nb M H) (hI : fm_I nb ad M) {a k n : Nat} (hk : k < fm_ct nb a) (hsh : fm_sh a = (0, n, [])) (hty : fm_ty a = .int) {lo up : Int} (hbd : ∀ j, fm_b a j = (lo, up)) {i : Int32} (hi : 0 ≤ i.toInt ∧ i.toInt < n) (hdg : decode cc pc = .ok (.iaload, 1))
    (kk : ∀ x : Int32, x = M.1 a k i.toNatClampNeg → lo ≤ x.toInt ∧ x.toInt ≤ up → W p l e R s m args below meth c H locs cells slots Q (F0 m (pc + 1) ls (.int x :: rest))) : W p l e R s m args below meth c H locs cells slots Q (F0 m pc ls (.int i :: .ref (ad a k) :: rest)) := by
  refine va_iald hexec hb (fm_Kone hc hk (by rw [hsh]; exact (by decide : (0 : Nat) < 3)) hty) (hw.one hk (x := .inl (C a k, n, .inl (M.1 a k))) (by rw [hsh]; rfl)) 0 0 rfl rfl (fm_in hi) hdg (kk _ rfl ?_)
  have h := hI.1 a k i.toNatClampNeg
  rw [hbd] at h
  exact h
theorem fm_lald (hexec : p.tables.exec = Jvm.exec) (hb : c.code = cc) (hc : fm_Cx D ad C nb A s) (hw : fm_at D ad C nb M H) {a k n : Nat} (hk : k < fm_ct nb a) (hsh : fm_sh a = (1, n, [])) (hty : fm_ty a = .long) {i : Int32} (hi : 0 ≤ i.toInt ∧ i.toInt < n) (hdg : decode cc pc = .ok (.laload, 1))
    (kk : ∀ x : Int64, x = M.2.1 a k i.toNatClampNeg → W p l e R s m args below meth c H locs cells slots Q (F0 m (pc + 1) ls (.long x :: rest))) : W p l e R s m args below meth c H locs cells slots Q (F0 m pc ls (.int i :: .ref (ad a k) :: rest)) :=
  va_lald hexec hb (fm_Kone hc hk (by rw [hsh]; exact (by decide : (1 : Nat) < 3)) hty) (hw.one hk (x := .inl (C a k, n, .inr (.inl (M.2.1 a k)))) (by rw [hsh]; rfl)) 0 0 rfl rfl (fm_in hi) hdg (kk _ rfl)
theorem fm_aald (hexec : p.tables.exec = Jvm.exec) (hb : c.code = cc) (hc : fm_Cx D ad C nb A s) (hw : fm_at D ad C nb M H) {a k n : Nat} (hk : k < fm_ct nb a) (hsh : fm_sh a = (2, n, [])) {E : String} (hty : fm_ty a = .object E) {i : Int32} (hi : 0 ≤ i.toInt ∧ i.toInt < n) (hdg : decode cc pc = .ok (.aaload, 1)) {r : Option Nat} (hr : M.2.2 a k i.toNatClampNeg = r)
    (kk : W p l e R s m args below meth c H locs cells slots Q (F0 m (pc + 1) ls (va_rf r :: rest))) : W p l e R s m args below meth c H locs cells slots Q (F0 m pc ls (.int i :: .ref (ad a k) :: rest)) := by
  subst hr
  exact va_aldq hexec hb (fm_Kone hc hk (by rw [hsh]; exact (by decide : (2 : Nat) < 3)) hty) (hw.one hk (x := .inl (C a k, n, .inr (.inr (.inr (.inr (M.2.2 a k)))))) (by rw [hsh]; rfl)) 0 0 rfl rfl (fm_in hi) hdg kk
theorem fm_aalA (hexec : p.tables.exec = Jvm.exec) (hb : c.code = cc) (hc : fm_Cx D ad C nb A s) (hw : fm_at D ad C nb M H) {a k n : Nat} (hk : k < fm_ct nb a) (hsh : fm_sh a = (2, n, [])) {t : FieldType} (hty : fm_ty a = .array t) {i : Int32} (hi : 0 ≤ i.toInt ∧ i.toInt < n) (hdg : decode cc pc = .ok (.aaload, 1)) {r : Option Nat} (hr : M.2.2 a k i.toNatClampNeg = r)
    (kk : W p l e R s m args below meth c H locs cells slots Q (F0 m (pc + 1) ls (va_rf r :: rest))) : W p l e R s m args below meth c H locs cells slots Q (F0 m pc ls (.int i :: .ref (ad a k) :: rest)) := by
  subst hr
  exact va_aldA hexec hb (fm_Kone hc hk (by rw [hsh]; exact (by decide : (2 : Nat) < 3)) hty) (hw.one hk (x := .inl (C a k, n, .inr (.inr (.inr (.inr (M.2.2 a k)))))) (by rw [hsh]; rfl)) 0 0 rfl rfl (fm_in hi) hdg kk
theorem fm_alen (hexec : p.tables.exec = Jvm.exec) (hb : c.code = cc) (hc : fm_Cx D ad C nb A s) (hw : fm_at D ad C nb M H) {a k n t : Nat} (hk : k < fm_ct nb a) (hsh : fm_sh a = (t, n, [])) (ht : t < 3) {v : Int32} (hv : Int32.ofNat n = v) (hdg : decode cc pc = .ok (.arraylength, 1))
    (kk : W p l e R s m args below meth c H locs cells slots Q (F0 m (pc + 1) ls (.int v :: rest))) : W p l e R s m args below meth c H locs cells slots Q (F0 m pc ls (.ref (ad a k) :: rest)) := by
  have h3 : (fm_sh a).1 < 3 := by rw [hsh]; exact ht
  match t, hsh, ht with
  | 0, hsh, _ => exact va_alen hexec hb (fm_Kone hc hk h3 rfl) (hw.one hk (x := .inl (C a k, n, .inl (M.1 a k))) (by rw [hsh]; rfl)) 0 0 rfl rfl hv hdg kk
  | 1, hsh, _ => exact va_alen hexec hb (fm_Kone hc hk h3 rfl) (hw.one hk (x := .inl (C a k, n, .inr (.inl (M.2.1 a k)))) (by rw [hsh]; rfl)) 0 0 rfl rfl hv hdg kk
  | 2, hsh, _ => exact va_alen hexec hb (fm_Kone hc hk h3 rfl) (hw.one hk (x := .inl (C a k, n, .inr (.inr (.inr (.inr (M.2.2 a k)))))) (by rw [hsh]; rfl)) 0 0 rfl rfl hv hdg kk
theorem fm_iast (hexec : p.tables.exec = Jvm.exec) (hb : c.code = cc) (hc : fm_Cx D ad C nb A s) (hw : fm_at D ad C nb M H) (hI : fm_I nb ad M) (hE : fm_same es M0 M) (hS : va_S A H0 H locs) {a k n : Nat} (hk : k < fm_ct nb a) (hsh : fm_sh a = (0, n, [])) (hty : fm_ty a = .int) {lo up : Int} (hbd : ∀ j, fm_b a j = (lo, up)) {i x : Int32} (hi : 0 ≤ i.toInt ∧ i.toInt < n) (hx : lo ≤ x.toInt ∧ x.toInt ≤ up) {cdn : Nat} (hcd : ∀ j, fm_cd a j = cdn) (hcn : cdn ∈ es) (hdg : decode cc pc = .ok (.iastore, 1))
    (kk : ∀ (M1 : fm_M) (H1 : Heap) (locs1 : List Loc), M1 = fm_wI M a k i.toNatClampNeg x → fm_at D ad C nb M1 H1 → fm_I nb ad M1 → fm_same es M0 M1 → va_S A H0 H1 locs1 → W p l e R s m args below meth c H1 locs1 cells slots Q (F0 m (pc + 1) ls rest)) : W p l e R s m args below meth c H locs cells slots Q (F0 m pc ls (.int x :: .int i :: .ref (ad a k) :: rest)) := by
  have hc0 := hw a k hk
  rw [hsh] at hc0
  have hin := fm_in hi
  have hty2 := (hc.2.1.2 a k hk (by rw [hsh]; exact (by decide : (0 : Nat) < 3))).1
  rw [hty] at hty2
  refine W.iast hexec hb (cell := vp_cell (C a k) (n, .inl (M.1 a k))) hc0 (hty2 n (fun j => .int (M.1 a k j))) (fun q => by cases q) (by show ¬ (i < 0 ∨ (arrV _ _ _).slots.size ≤ _); rw [arrV_size]; exact hin) rfl rfl hdg fun H1 e1 z oq => ?_
  refine kk _ H1 _ rfl (hw.set hc.1 hk oq ?_ (fun b j hbj => ⟨fm_wI_ne hbj, rfl, rfl⟩)) (hI.wI (fun q => ?_) (by rw [hbd]; exact hx)) (hE.wI (by rw [hcd]; exact hcn)) (hS.put z oq (hc.2.2.2.2.2 _ ⟨a, k, hk, rfl⟩))
  · rw [hsh]
    show H1[ad a k]? = some (vp_cell _ _)
    rw [e1]
    rw [vp_cell_i, vp_cell_i, arrV_store]
    congr 2
    funext q
    by_cases hq : q = i.toNatClampNeg
    · subst hq
      rw [fm_wI_at]
      simp [updV]
    · rw [fm_wI_nj (fun z => hq z.2.2)]
      simp [updV, hq]
  · rw [← q.1] at hsh
    exact absurd (show (3 : Nat) = 0 from congrArg (fun z => z.1) hsh) (by decide)
theorem fm_last (hexec : p.tables.exec = Jvm.exec) (hb : c.code = cc) (hc : fm_Cx D ad C nb A s) (hw : fm_at D ad C nb M H) (hI : fm_I nb ad M) (hE : fm_same es M0 M) (hS : va_S A H0 H locs) {a k n : Nat} (hk : k < fm_ct nb a) (hsh : fm_sh a = (1, n, [])) (hty : fm_ty a = .long) {i : Int32} {x : Int64} (hi : 0 ≤ i.toInt ∧ i.toInt < n) {cdn : Nat} (hcd : ∀ j, fm_cd a j = cdn) (hcn : cdn ∈ es) (hdg : decode cc pc = .ok (.lastore, 1))
    (kk : ∀ (M1 : fm_M) (H1 : Heap) (locs1 : List Loc), M1 = fm_wL M a k i.toNatClampNeg x → fm_at D ad C nb M1 H1 → fm_I nb ad M1 → fm_same es M0 M1 → va_S A H0 H1 locs1 → W p l e R s m args below meth c H1 locs1 cells slots Q (F0 m (pc + 1) ls rest)) : W p l e R s m args below meth c H locs cells slots Q (F0 m pc ls (.long x :: .int i :: .ref (ad a k) :: rest)) := by
  have hc0 := hw a k hk
  rw [hsh] at hc0
  have hin := fm_in hi
  have hty2 := (hc.2.1.2 a k hk (by rw [hsh]; exact (by decide : (1 : Nat) < 3))).1
  rw [hty] at hty2
  refine W.last hexec hb (cell := vp_cell (C a k) (n, .inr (.inl (M.2.1 a k)))) hc0 (hty2 n (fun j => .long (M.2.1 a k j))) (fun q => by cases q) (by show ¬ (i < 0 ∨ (arrV _ _ _).slots.size ≤ _); rw [arrV_size]; exact hin) rfl rfl hdg fun H1 e1 z oq => ?_
  refine kk _ H1 _ rfl (hw.set hc.1 hk oq ?_ (fun b j hbj => ⟨rfl, fm_wL_ne hbj, rfl⟩)) hI.wL (hE.wL (by rw [hcd]; exact hcn)) (hS.put z oq (hc.2.2.2.2.2 _ ⟨a, k, hk, rfl⟩))
  rw [hsh]
  show H1[ad a k]? = some (vp_cell _ _)
  rw [e1]
  rw [vp_cell_l, vp_cell_l, arrV_store]
  congr 2
  funext q
  by_cases hq : q = i.toNatClampNeg
  · subst hq
    rw [fm_wL_at]
    simp [updV]
  · rw [fm_wL_nj (fun z => hq z.2.2)]
    simp [updV, hq]
theorem fm_getI (hexec : p.tables.exec = Jvm.exec) (hb : c.code = cc) {own ref E : String} {T : u_T} {N ci index : Nat} {Ts : List Cond} (hts : ∀ w ∈ Ts, w.before args s = true) (hin : ∀ w ∈ u_ws E T N, w ∈ Ts) (hown : s.vm.findClass own = some m.cls) (hc : fm_Cx D ad C nb A s) (hw : fm_at D ad C nb M H) (hI : fm_I nb ad M) {a k j : Nat} {fl : List (Nat × Nat)} (hk : k < fm_ct nb a) (hsh : fm_sh a = (3, ci, fl)) (hcl : vwCl[ci]? = some (E, T, N)) (hjN : j < N) (hfl : fl[j]? = some (j, 0)) {lo up : Int} (hbd : fm_b a j = (lo, up)) (hlink : (Cond.fieldLink own index ref (T j).2.1 (T j).2.2.1).before args s = true) (hsame : ∀ x, s.fieldFound? (T j).1 (T j).2.1 (T j).2.2.1 = some x → s.fieldFound? ref (T j).2.1 (T j).2.2.1 = some x) (hdg : decode cc pc = .ok (.getfield index, 3))
    (kk : ∀ x : Int32, x = M.1 a k j → lo ≤ x.toInt ∧ x.toInt ≤ up → W p l e R s m args below meth c H locs cells slots Q (F0 m (pc + 3) ls (.int x :: rest))) : W p l e R s m args below meth c H locs cells slots Q (F0 m pc ls (.ref (ad a k) :: rest)) := by
  refine va_get (ci := ci) (v := .int (M.1 a k j)) hexec hb hts hin hown hc.2.1.1 (hw.one hk (x := .inr (ci, fl.map (fm_fv (M.1 a k) (M.2.1 a k) (M.2.2 a k)))) (by rw [hsh]; rfl)) 0 rfl hcl j hjN hlink hsame (by rw [List.getElem?_map, hfl]; rfl) hdg (kk _ rfl ?_)
  have h := hI.1 a k j
  rw [hbd] at h
  exact h
theorem fm_getL (hexec : p.tables.exec = Jvm.exec) (hb : c.code = cc) {own ref E : String} {T : u_T} {N ci index : Nat} {Ts : List Cond} (hts : ∀ w ∈ Ts, w.before args s = true) (hin : ∀ w ∈ u_ws E T N, w ∈ Ts) (hown : s.vm.findClass own = some m.cls) (hc : fm_Cx D ad C nb A s) (hw : fm_at D ad C nb M H) {a k j : Nat} {fl : List (Nat × Nat)} (hk : k < fm_ct nb a) (hsh : fm_sh a = (3, ci, fl)) (hcl : vwCl[ci]? = some (E, T, N)) (hjN : j < N) (hfl : fl[j]? = some (j, 1)) (hlink : (Cond.fieldLink own index ref (T j).2.1 (T j).2.2.1).before args s = true) (hsame : ∀ x, s.fieldFound? (T j).1 (T j).2.1 (T j).2.2.1 = some x → s.fieldFound? ref (T j).2.1 (T j).2.2.1 = some x) (hdg : decode cc pc = .ok (.getfield index, 3))
    (kk : ∀ x : Int64, x = M.2.1 a k j → W p l e R s m args below meth c H locs cells slots Q (F0 m (pc + 3) ls (.long x :: rest))) : W p l e R s m args below meth c H locs cells slots Q (F0 m pc ls (.ref (ad a k) :: rest)) :=
  va_get (ci := ci) (v := .long (M.2.1 a k j)) hexec hb hts hin hown hc.2.1.1 (hw.one hk (x := .inr (ci, fl.map (fm_fv (M.1 a k) (M.2.1 a k) (M.2.2 a k)))) (by rw [hsh]; rfl)) 0 rfl hcl j hjN hlink hsame (by rw [List.getElem?_map, hfl]; rfl) hdg (kk _ rfl)
theorem fm_getG (hexec : p.tables.exec = Jvm.exec) (hb : c.code = cc) {own ref E : String} {T : u_T} {N ci index : Nat} {Ts : List Cond} (hts : ∀ w ∈ Ts, w.before args s = true) (hin : ∀ w ∈ u_ws E T N, w ∈ Ts) (hown : s.vm.findClass own = some m.cls) (hc : fm_Cx D ad C nb A s) (hw : fm_at D ad C nb M H) {a k j : Nat} {fl : List (Nat × Nat)} (hk : k < fm_ct nb a) (hsh : fm_sh a = (3, ci, fl)) (hcl : vwCl[ci]? = some (E, T, N)) (hjN : j < N) (hfl : fl[j]? = some (j, 2)) {r : Nat} (hr : M.2.2 a k j = some r) (hlink : (Cond.fieldLink own index ref (T j).2.1 (T j).2.2.1).before args s = true) (hsame : ∀ x, s.fieldFound? (T j).1 (T j).2.1 (T j).2.2.1 = some x → s.fieldFound? ref (T j).2.1 (T j).2.2.1 = some x) (hdg : decode cc pc = .ok (.getfield index, 3))
    (kk : W p l e R s m args below meth c H locs cells slots Q (F0 m (pc + 3) ls (.ref r :: rest))) : W p l e R s m args below meth c H locs cells slots Q (F0 m pc ls (.ref (ad a k) :: rest)) :=
  va_get (ci := ci) (v := .ref r) hexec hb hts hin hown hc.2.1.1 (hw.one hk (x := .inr (ci, fl.map (fm_fv (M.1 a k) (M.2.1 a k) (M.2.2 a k)))) (by rw [hsh]; rfl)) 0 rfl hcl j hjN hlink hsame (by rw [List.getElem?_map, hfl]; show some (va_rf (M.2.2 a k j)) = _; rw [hr]; rfl) hdg kk
theorem fm_I.to (hI : fm_I nb ad M) {a k j t : Nat} (hk : k < fm_ct nb a) (ht : fm_tg a j = t + 1) : M.2.2 a k j = some (ad (t + 1) k) := by
  have h := hI.2.1 a k j (by rw [ht]; exact Nat.succ_ne_zero t) hk
  rw [ht] at h
  exact h
/-- a field of an object is put: the machine's part -/
theorem fm_put0 (hexec : p.tables.exec = Jvm.exec) (hb : c.code = cc) {own ref E : String} {T : u_T} {N ci index : Nat} {Ts : List Cond} (hts : ∀ w ∈ Ts, w.before args s = true) (hin : ∀ w ∈ u_ws E T N, w ∈ Ts) (ty0 : Nat → FieldType) (hty : ∀ k, k < N → parseFieldDescriptor (T k).2.2.1 = some (ty0 k)) (hnm : ∀ a, a < N → ∀ b, b < N → a ≠ b → (T a).2.1 ≠ (T b).2.1) (hown : s.vm.findClass own = some m.cls) (hK : va_K D vwCl [] s) {o : Nat} {fs : List Value} (hat : va_at D vwCl (o, .inr (ci, fs)) H) (hcl : vwCl[ci]? = some (E, T, N)) {k : Nat} (hk : k < N) (hlink : (Cond.fieldLink own index ref (T k).2.1 (T k).2.2.1).before args s = true) (hsame : ∀ x, s.fieldFound? (T k).1 (T k).2.1 (T k).2.2.1 = some x → s.fieldFound? ref (T k).2.1 (T k).2.2.1 = some x) (hfin : (T k).2.2.2 = false) {ty : FieldType} {v : Value} (hd : parseFieldDescriptor (T k).2.2.1 = some ty) (hn : narrow ty v = v) (hfit : fits ty v = true) (hl : k < fs.length) (hdg : decode cc pc = .ok (.putfield index, 3))
    (kk : ∀ (H1 : Heap) (q : Nat), va_at D vwCl (o, .inr (ci, fs.set k v)) H1 → H1.size = H.size → (∀ q, q ≠ o → H1[q]? = H[q]?) → W p l e R s m args below meth c H1 (locs ++ [⟨o, q⟩]) cells slots Q (F0 m (pc + 3) ls rest)) : W p l e R s m args below meth c H locs cells slots Q (F0 m pc ls (v :: .ref o :: rest)) := by
  have hap := va_apart (own := own) hts hin ty0 hty hnm hK hcl
  obtain ⟨r, h1, cell, q1, q2, q3, q4⟩ := hat
  have hr : r = (E, T, N) := Option.some.inj (h1.symm.trans hcl)
  subst hr
  obtain ⟨hS, hfc, kC, hkC, hkind⟩ := hK.1 ci _ hcl
  obtain ⟨cf, kf, fi, f, hi, hsl⟩ := hS k hk
  have hlay := hts _ (hin _ (u_in_lay hk))
  unfold u_lay at hlay
  rw [if_neg (by rw [hfin]; decide)] at hlay
  have hst := (u_facts hfc hkC (u_lays hts hin hk) hi).1
  have h6 := u_store hfc hkC hkind hlay hi hd hn hfit
  refine W.putK hexec hb (f := f) ⟨hown, hlink, ⟨_, _, _, hsame _ hi⟩, hst⟩ (by rw [q2]; exact h6) q1 q3 (by rw [hsl]; exact k2_hasslot (q4 k hk)) rfl rfl hdg fun H' e1 e2 e3 => ?_
  rw [hsl] at e1 ⊢
  exact kk H' _ ⟨_, hcl, t_OB.to (V := updV (vp_V fs) k v) ⟨_, e1, q2, q3, t_set q4 hap hk v⟩ (fun j _ => vp_updV_set hl v j)⟩ e2 e3
theorem fm_setl {V V1 : Nat → Int32} {L L1 : Nat → Int64} {G G1 : Nat → Option Nat} {fl : List (Nat × Nat)} {j t : Nat} {v : Value} (hord : ∀ i, i < fl.length → (fl.getD i (0, 0)).1 = i) (hfl : fl[j]? = some (j, t)) (hv : fm_fv V1 L1 G1 (j, t) = v) (hn : ∀ i, i ≠ j → V1 i = V i ∧ L1 i = L i ∧ G1 i = G i) : (fl.map (fm_fv V L G)).set j v = fl.map (fm_fv V1 L1 G1) := by
  apply List.ext_getElem?
  intro i
  have hjl := (List.getElem?_eq_some_iff.mp hfl).1
  by_cases h : i = j
  · subst h
    rw [List.getElem?_set_self (by rw [List.length_map]; exact hjl), List.getElem?_map, hfl, ← hv]
    rfl
  · rw [List.getElem?_set_ne (Ne.symm h), List.getElem?_map, List.getElem?_map]
    cases hq : fl[i]? with
    | none => rfl
    | some q =>
      have hil := (List.getElem?_eq_some_iff.mp hq).1
      have ho := hord i hil
      rw [List.getD_eq_getElem?_getD, hq] at ho
      obtain ⟨q1, q2⟩ := q
      have ho : q1 = i := ho
      subst ho
      obtain ⟨n1, n2, n3⟩ := hn q1 h
      show some (fm_fv V L G (q1, q2)) = some (fm_fv V1 L1 G1 (q1, q2))
      unfold fm_fv
      simp only [n1, n2, n3]
theorem fm_putI (hexec : p.tables.exec = Jvm.exec) (hb : c.code = cc) {own ref E : String} {T : u_T} {N ci index : Nat} {Ts : List Cond} (hts : ∀ w ∈ Ts, w.before args s = true) (hin : ∀ w ∈ u_ws E T N, w ∈ Ts) (ty0 : Nat → FieldType) (hty : ∀ k, k < N → parseFieldDescriptor (T k).2.2.1 = some (ty0 k)) (hnm : ∀ a, a < N → ∀ b, b < N → a ≠ b → (T a).2.1 ≠ (T b).2.1) (hown : s.vm.findClass own = some m.cls) (hc : fm_Cx D ad C nb A s) (hw : fm_at D ad C nb M H) (hI : fm_I nb ad M) (hE : fm_same es M0 M) (hS : va_S A H0 H locs) {a k j : Nat} {fl : List (Nat × Nat)} (hk : k < fm_ct nb a) (hsh : fm_sh a = (3, ci, fl)) (hord : ∀ i, i < fl.length → (fl.getD i (0, 0)).1 = i) (hcl : vwCl[ci]? = some (E, T, N)) (hjN : j < N) (hfl : fl[j]? = some (j, 0)) {lo up : Int} (hbd : fm_b a j = (lo, up)) (hlink : (Cond.fieldLink own index ref (T j).2.1 (T j).2.2.1).before args s = true) (hsame : ∀ x, s.fieldFound? (T j).1 (T j).2.1 (T j).2.2.1 = some x → s.fieldFound? ref (T j).2.1 (T j).2.2.1 = some x) (hfin : (T j).2.2.2 = false) (hd : parseFieldDescriptor (T j).2.2.1 = some .int) {x : Int32} (hx : lo ≤ x.toInt ∧ x.toInt ≤ up) (hne : ¬ (0 = a ∧ 10 = j)) (hcd : fm_cd a j ∈ es) (hdg : decode cc pc = .ok (.putfield index, 3))
    (kk : ∀ (M1 : fm_M) (H1 : Heap) (locs1 : List Loc), M1 = fm_wI M a k j x → fm_at D ad C nb M1 H1 → fm_I nb ad M1 → fm_same es M0 M1 → va_S A H0 H1 locs1 → W p l e R s m args below meth c H1 locs1 cells slots Q (F0 m (pc + 3) ls rest)) : W p l e R s m args below meth c H locs cells slots Q (F0 m pc ls (.int x :: .ref (ad a k) :: rest)) := by
  have h0 := hw a k hk
  rw [hsh] at h0
  refine fm_put0 (ci := ci) (fs := fl.map (fm_fv (M.1 a k) (M.2.1 a k) (M.2.2 a k))) hexec hb hts hin ty0 hty hnm hown hc.2.1.1 h0 hcl hjN hlink hsame hfin hd rfl rfl (by rw [List.length_map]; exact (List.getElem?_eq_some_iff.mp hfl).1) hdg fun H1 q g1 g2 g3 => ?_
  refine kk _ H1 _ rfl (hw.set hc.1 hk g3 ?_ (fun b i hbi => ⟨fm_wI_ne hbi, rfl, rfl⟩)) (hI.wI hne (by rw [hbd]; exact hx)) (hE.wI hcd) (hS.put g2 g3 (hc.2.2.2.2.2 _ ⟨a, k, hk, rfl⟩))
  rw [hsh]
  rw [fm_setl (V1 := (fm_wI M a k j x).1 a k) (L1 := M.2.1 a k) (G1 := M.2.2 a k) hord hfl (by show Value.int _ = _; rw [fm_wI_at]) (fun i hi => ⟨fm_wI_nj (fun z => hi z.2.2), rfl, rfl⟩)] at g1
  exact g1
theorem fm_putL (hexec : p.tables.exec = Jvm.exec) (hb : c.code = cc) {own ref E : String} {T : u_T} {N ci index : Nat} {Ts : List Cond} (hts : ∀ w ∈ Ts, w.before args s = true) (hin : ∀ w ∈ u_ws E T N, w ∈ Ts) (ty0 : Nat → FieldType) (hty : ∀ k, k < N → parseFieldDescriptor (T k).2.2.1 = some (ty0 k)) (hnm : ∀ a, a < N → ∀ b, b < N → a ≠ b → (T a).2.1 ≠ (T b).2.1) (hown : s.vm.findClass own = some m.cls) (hc : fm_Cx D ad C nb A s) (hw : fm_at D ad C nb M H) (hI : fm_I nb ad M) (hE : fm_same es M0 M) (hS : va_S A H0 H locs) {a k j : Nat} {fl : List (Nat × Nat)} (hk : k < fm_ct nb a) (hsh : fm_sh a = (3, ci, fl)) (hord : ∀ i, i < fl.length → (fl.getD i (0, 0)).1 = i) (hcl : vwCl[ci]? = some (E, T, N)) (hjN : j < N) (hfl : fl[j]? = some (j, 1)) (hlink : (Cond.fieldLink own index ref (T j).2.1 (T j).2.2.1).before args s = true) (hsame : ∀ x, s.fieldFound? (T j).1 (T j).2.1 (T j).2.2.1 = some x → s.fieldFound? ref (T j).2.1 (T j).2.2.1 = some x) (hfin : (T j).2.2.2 = false) (hd : parseFieldDescriptor (T j).2.2.1 = some .long) {x : Int64} (hcd : fm_cd a j ∈ es) (hdg : decode cc pc = .ok (.putfield index, 3))
    (kk : ∀ (M1 : fm_M) (H1 : Heap) (locs1 : List Loc), M1 = fm_wL M a k j x → fm_at D ad C nb M1 H1 → fm_I nb ad M1 → fm_same es M0 M1 → va_S A H0 H1 locs1 → W p l e R s m args below meth c H1 locs1 cells slots Q (F0 m (pc + 3) ls rest)) : W p l e R s m args below meth c H locs cells slots Q (F0 m pc ls (.long x :: .ref (ad a k) :: rest)) := by
  have h0 := hw a k hk
  rw [hsh] at h0
  refine fm_put0 (ci := ci) (fs := fl.map (fm_fv (M.1 a k) (M.2.1 a k) (M.2.2 a k))) hexec hb hts hin ty0 hty hnm hown hc.2.1.1 h0 hcl hjN hlink hsame hfin hd rfl rfl (by rw [List.length_map]; exact (List.getElem?_eq_some_iff.mp hfl).1) hdg fun H1 q g1 g2 g3 => ?_
  refine kk _ H1 _ rfl (hw.set hc.1 hk g3 ?_ (fun b i hbi => ⟨rfl, fm_wL_ne hbi, rfl⟩)) hI.wL (hE.wL hcd) (hS.put g2 g3 (hc.2.2.2.2.2 _ ⟨a, k, hk, rfl⟩))
  rw [hsh]
  rw [fm_setl (V1 := M.1 a k) (L1 := (fm_wL M a k j x).2.1 a k) (G1 := M.2.2 a k) hord hfl (by show Value.long _ = _; rw [fm_wL_at]) (fun i hi => ⟨rfl, fm_wL_nj (fun z => hi z.2.2), rfl⟩)] at g1
  exact g1
end
