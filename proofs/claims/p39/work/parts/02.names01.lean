def va_AOA (ty : FieldType) (U : State) : Prop := (Cond.arrayOver (.array ty)).before #[] U = true
theorem va_AOA.of {ty : FieldType} {A : Array Value} {U : State} (h : (Cond.arrayOver (.array ty)).before A U = true) : va_AOA ty U := h
theorem va_AOA.use {ty : FieldType} {A : Array Value} {U : State} (h : va_AOA ty U) : (Cond.arrayOver (.array ty)).before A U = true := h

/-! ===== BEGIN words of one list among another's, by their places ===== -/
theorem goodIn_r {big : List Cond} (ws : List Cond) (ps : List Nat) (hp : ws = ps.filterMap (fun i => big[i]?)) (h : ws.all goodWord = true) : GoodIn big ws := by
  intro w hw
  have h1 := List.all_eq_true.mp h w hw
  rw [hp] at hw
  obtain ⟨i, -, hi⟩ := List.mem_filterMap.mp hw
  have hm : w ∈ big := by first | exact List.mem_of_getElem? hi | exact List.getElem?_mem hi
  exact ⟨hm, good_of_word h1⟩
theorem goodIn_app {big a b : List Cond} (ha : GoodIn big a) (hb : GoodIn big b) : GoodIn big (a ++ b) := fun w h => (List.mem_append.mp h).elim (ha w) (hb w)
theorem goodIn_ca {big a b : List Cond} {c : Cond} (ha : GoodIn big (c :: a)) (hb : GoodIn big b) : GoodIn big (c :: (a ++ b)) := fun w h => (List.mem_cons.mp h).elim (fun e => ha w (List.mem_cons.mpr (Or.inl e))) (fun h => (List.mem_append.mp h).elim (fun h => ha w (List.mem_cons.mpr (Or.inr h))) (hb w))
theorem goodIn_sub {big ws : List Cond} (hm : ∀ w ∈ ws, w ∈ big) (h : ws.all goodWord = true) : GoodIn big ws := fun w hw => ⟨hm w hw, good_of_word (List.all_eq_true.mp h w hw)⟩
/-! ===== END ===== -/

/-! ===== BEGIN new T[n][m]: the outer array a place, the inner ones among the pooled ===== -/
/-- f, but v at every address of l -/
def vr_up {α : Type} (f : Nat → α) (l : List Nat) (v : α) : Nat → α := fun a => if a ∈ l then v else f a
theorem vr_up_in {α : Type} {f : Nat → α} {l : List Nat} {v : α} {a : Nat} (h : a ∈ l) : vr_up f l v a = v := if_pos h
theorem vr_up_ne {α : Type} {f : Nat → α} {l : List Nat} {v : α} {a : Nat} (h : a ∉ l) : vr_up f l v a = f a := if_neg h
theorem vr_rows {L l : List Nat} {f : Nat → va_E} {e : va_E} (h : ∀ a, a ∈ l → a ∉ L) : va_pl L f ++ l.map (fun a => (a, e)) = va_pl (L ++ l) (vr_up f l e) := by
  unfold va_pl
  rw [List.map_append]
  congr 1
  · apply List.map_congr_left
    intro a ha
    rw [vr_up_ne (fun q => h a q ha)]
  · apply List.map_congr_left
    intro a ha
    rw [vr_up_in ha]
theorem vr_lay {X rows : va_W} {x : Nat × va_E} {pl : va_W} {D : va_G} {cl : List vw_C} {H : Heap} (hP : va_P D cl (((X ++ pl) ++ [x]) ++ rows) H) : va_P D cl ((X ++ [x]) ++ (pl ++ rows)) H := by
  rw [List.append_assoc (X ++ pl)] at hP
  have h := va_P.swap hP
  rw [← List.append_assoc X] at h
  have h2 := va_P.swap h
  rw [List.append_assoc (X ++ [x])] at h2
  exact h2
theorem vr_layD {X rows : va_W} {x : Nat × va_E} {pl : va_W} {A : Nat → Prop} (hD : va_D A (((X ++ pl) ++ [x]) ++ rows)) : va_D A ((X ++ [x]) ++ (pl ++ rows)) := by
  rw [List.append_assoc (X ++ pl)] at hD
  have h := va_D.swap hD
  rw [← List.append_assoc X] at h
  have h2 := va_D.swap h
  rw [List.append_assoc (X ++ [x])] at h2
  exact h2
theorem vr_outer (c : ClassId) (N h0 : Nat) : ∀ i : Nat, Jvm.Free.Multi.outerC c N h0 i = arrV c N (fun j => va_rf (if j < i then some (h0 + 1 + j) else none))
  | 0 => by
    show ({ cls := c, slots := Array.replicate N .null, vm := .none } : Cell) = _
    rw [arrV_new]
    refine congrArg (arrV c N) (funext fun j => ?_)
    simp [va_rf]
  | i + 1 => by
    show (Jvm.Free.Multi.outerC c N h0 i).setSlot i (.ref (h0 + 1 + i)) = _
    rw [vr_outer c N h0 i, arrV_store]
    refine congrArg (arrV c N) (funext fun j => ?_)
    by_cases e : j = i
    · subst e
      simp [updV, va_rf]
    · by_cases h : j < i
      · simp [updV, e, h, Nat.lt_succ_of_lt h]
      · simp [updV, e, h, show ¬ j < i + 1 by omega]
section VGM
variable {p : Program} {l : Launch} {e : Env} {R : Room} {s : State} {m : MethodId} {args : Array Value} {below : List Frame} {meth : Method} {c : Code} {H : Heap} {locs : List Loc} {cells slots : Nat} {Q : State → Prop}
variable {cc : ByteArray} {pc : Nat} {ls : Array Slot} {rest : List Value} {D : va_G} {cl : List vw_C} {A : Nat → Prop} {a : Nat} {tys : List (ClassId × FieldType)} {ws : va_W} {H0 : Heap}
theorem va_mna {X : va_W} {L : List Nat} {f : Nat → va_E} {cc : ByteArray} (hexec : p.tables.exec = Jvm.exec) (hb : c.code = cc) {own : String} {index : Nat} {ty : FieldType} {cy : ClassId} (hown : s.vm.findClass own = some m.cls) (hclink : (Cond.classLink own index ("[" ++ (FieldType.array ty).toString)).before args s = true) (hover : va_AOA ty s) (harr : (Cond.arrayClass ty).before args s = true) (hcy : s.vm.findClass (FieldType.array ty).toString = some cy)
    (hK : va_K D cl tys s) (hP : va_P D cl (X ++ va_pl L f) H) (hD : va_D A (X ++ va_pl L f)) (hS : va_S A H0 H locs) (hA : ∀ q, H0.size ≤ q → A q) {n k : Int32} {N' K' : Nat} {z : vp_A} (hn : ¬ n < 0) (hk : ¬ k < 0) (hN : n.toNatClampNeg = N') (hM : k.toNatClampNeg = K')
    (hb1 : N' * 4 ≤ 536870912) (hb2 : K' * componentBytes ty ≤ 536870912) (hb3 : K' ≤ 536870912) (hdf : fits ty (defaultValue ty) = true) (hdd : (defaultValue ty).isDefault = true) (hcells : cells + (1 + N') ≤ R.cells) (hslots : slots + (N' + N' * K') ≤ R.slots) (hz : ∀ c : ClassId, Jvm.Free.Multi.innerC c K' (defaultValue ty) = vp_cell c z) (hdg : decode cc pc = .ok (.multianewarray index 2, 4))
    (kk : ∀ (q : Nat) (r : Nat → Nat) (cA : ClassId) (H1 : Heap), (∀ i j : Nat, i < N' → j < N' → r i = r j → i = j) → (∀ i : Nat, i < N' → r i ∉ L) → va_K D cl (tys ++ [(cA, .array ty)]) s →
      va_P D cl ((X ++ [(q, .inl (cA, N', .inr (.inr (.inr (.inr (fun i => if i < N' then some (r i) else none))))))]) ++ va_pl (L ++ (List.range N').map r) (vr_up f ((List.range N').map r) (.inl (cy, z)))) H1 → va_D A ((X ++ [(q, .inl (cA, N', .inr (.inr (.inr (.inr (fun i => if i < N' then some (r i) else none))))))]) ++ va_pl (L ++ (List.range N').map r) (vr_up f ((List.range N').map r) (.inl (cy, z)))) → va_S A H0 H1 locs →
      W p l e R s m args below meth c H1 locs (cells + 1 + N') (slots + N' + N' * K') Q (F0 m (pc + 4) ls (.ref q :: rest))) : W p l e R s m args below meth c H locs cells slots Q (F0 m pc ls (.int k :: .int n :: rest)) := by
  subst hN
  subst hM
  intro T hT Xs
  obtain ⟨vm₁, cA, comp, -, fA, fC, hO, -, X', step⟩ := Xs.multianewarray2F hexec hown hclink (va_AOA.use hover) harr (g := F0 m pc ls (.int k :: .int n :: rest)) rfl (by rw [hb]; exact hdg) rfl hn hk hb1 hb2 hb3 hdf hdd hcells hslots
  have ec : some cy = some comp := hcy.symm.trans fC
  cases ec
  generalize hF : Jvm.Free.Multi.fill (T.setVm vm₁) cA cy n.toNatClampNeg k.toNatClampNeg (defaultValue ty) n.toNatClampNeg = F at X' step
  have hTh : (T.setVm vm₁).heap = H := hT
  obtain ⟨f1, f2, -, -⟩ := Jvm.Free.Multi.fill_facts (T.setVm vm₁) cA cy n.toNatClampNeg k.toNatClampNeg (defaultValue ty) n.toNatClampNeg
  rw [hF, hTh] at f1 f2
  have hold : ∀ x : Nat, x < H.size → F.heap[x]? = H[x]? := fun x hx => by
    have := Jvm.Free.Multi.fill_old (T.setVm vm₁) cA cy n.toNatClampNeg k.toNatClampNeg (defaultValue ty) (a := x) (by rw [hTh]; exact hx) n.toNatClampNeg
    rw [hF, hTh] at this
    exact this
  have hrow : ∀ j : Nat, j < n.toNatClampNeg → F.heap[H.size + 1 + j]? = some (vp_cell cy z) := fun j hj => by
    have := Jvm.Free.Multi.fill_inner (T.setVm vm₁) cA cy n.toNatClampNeg k.toNatClampNeg (defaultValue ty) n.toNatClampNeg j hj
    rw [hF, hTh, hz] at this
    exact this
  have hout : Jvm.Free.Multi.outerC cA n.toNatClampNeg H.size n.toNatClampNeg = vp_cell cA (n.toNatClampNeg, .inr (.inr (.inr (.inr (fun i => if i < n.toNatClampNeg then some (H.size + 1 + i) else none))))) := by
    rw [vp_cell_q]
    exact vr_outer cA n.toNatClampNeg H.size n.toNatClampNeg
  rw [hout] at f2
  have hlt : ∀ a, a ∈ L → a < H.size := fun a ha => by
    obtain ⟨k9, hk9⟩ := va_pl_get (X := X) (f := f) ha
    exact (hP k9 _ hk9).lt
  have hnl : ∀ i : Nat, i < n.toNatClampNeg → H.size + 1 + i ∉ L := fun i _ h => by
    have := hlt _ h
    omega
  have hnm : ∀ a, a ∈ (List.range n.toNatClampNeg).map (fun i => H.size + 1 + i) → a ∉ L := fun a ha h => by
    obtain ⟨i, -, rfl⟩ := List.mem_map.mp ha
    have := hlt _ h
    omega
  have hP0 : va_P D cl (X ++ va_pl L f) F.heap := hP.kept (fun k9 x hx => hold x.1 ((hP k9 x hx).lt))
  have hP1 : va_P D cl ((X ++ va_pl L f) ++ [(H.size, .inl (cA, n.toNatClampNeg, .inr (.inr (.inr (.inr (fun i => if i < n.toNatClampNeg then some (H.size + 1 + i) else none))))))]) F.heap := hP0.app (fun k9 x hx => by
    have h0 : k9 < 1 := (List.getElem?_eq_some_iff.mp hx).1
    rw [show k9 = 0 by omega] at hx
    cases hx
    exact f2)
  have hP2 : va_P D cl (((X ++ va_pl L f) ++ [(H.size, .inl (cA, n.toNatClampNeg, .inr (.inr (.inr (.inr (fun i => if i < n.toNatClampNeg then some (H.size + 1 + i) else none))))))]) ++ ((List.range n.toNatClampNeg).map (fun i => H.size + 1 + i)).map (fun a => (a, .inl (cy, z)))) F.heap := hP1.app (fun k9 x hx => by
    obtain ⟨a, ha, rfl⟩ := List.mem_map.mp (List.mem_of_getElem? hx)
    obtain ⟨i, hi, rfl⟩ := List.mem_map.mp ha
    exact hrow i (List.mem_range.mp hi))
  have hD2 : va_D A (((X ++ va_pl L f) ++ [(H.size, .inl (cA, n.toNatClampNeg, .inr (.inr (.inr (.inr (fun i => if i < n.toNatClampNeg then some (H.size + 1 + i) else none))))))]) ++ ((List.range n.toNatClampNeg).map (fun i => H.size + 1 + i)).map (fun a => (a, .inl (cy, z)))) := by
    have hD1 := hD.push (e := .inl (cA, n.toNatClampNeg, .inr (.inr (.inr (.inr (fun i => if i < n.toNatClampNeg then some (H.size + 1 + i) else none)))))) hP rfl (hA _ hS.1)
    generalize hW1 : (X ++ va_pl L f) ++ [(H.size, .inl (cA, n.toNatClampNeg, .inr (.inr (.inr (.inr (fun i => if i < n.toNatClampNeg then some (H.size + 1 + i) else none))))))] = W1 at hD1 hP1 ⊢
    have hle : ∀ (k9 : Nat) (x : Nat × va_E), W1[k9]? = some x → x.1 ≤ H.size := fun k9 x hx => by
      rw [← hW1] at hx
      by_cases hl : k9 < (X ++ va_pl L f).length
      · rw [List.getElem?_append_left hl] at hx
        exact Nat.le_of_lt ((hP k9 x hx).lt)
      · rw [List.getElem?_append_right (by omega)] at hx
        have h0 : k9 - (X ++ va_pl L f).length < 1 := (List.getElem?_eq_some_iff.mp hx).1
        rw [show k9 - (X ++ va_pl L f).length = 0 by omega] at hx
        cases hx
        exact Nat.le_refl _
    have hr : ∀ (k9 : Nat) (x : Nat × va_E), (((List.range n.toNatClampNeg).map (fun i => H.size + 1 + i)).map (fun a => ((a, .inl (cy, z)) : Nat × va_E)))[k9]? = some x → x.1 = H.size + 1 + k9 := fun k9 x hx => by
      rw [List.getElem?_map, List.getElem?_map] at hx
      by_cases h9 : k9 < n.toNatClampNeg
      · rw [List.getElem?_range h9] at hx
        cases hx
        rfl
      · have hn0 : (List.range n.toNatClampNeg)[k9]? = none := List.getElem?_eq_none (by rw [List.length_range]; omega)
        rw [hn0] at hx
        cases hx
    refine ⟨fun i j x y hi hj hxy => ?_, fun k9 x hx => ?_⟩
    · by_cases h1 : i < W1.length <;> by_cases h2 : j < W1.length
      · rw [List.getElem?_append_left h1] at hi
        rw [List.getElem?_append_left h2] at hj
        exact hD1.1 i j x y hi hj hxy
      · rw [List.getElem?_append_left h1] at hi
        rw [List.getElem?_append_right (by omega)] at hj
        have := hle _ _ hi
        have := hr _ _ hj
        omega
      · rw [List.getElem?_append_right (by omega)] at hi
        rw [List.getElem?_append_left h2] at hj
        have := hle _ _ hj
        have := hr _ _ hi
        omega
      · rw [List.getElem?_append_right (by omega)] at hi hj
        have := hr _ _ hi
        have := hr _ _ hj
        omega
    · by_cases h1 : k9 < W1.length
      · rw [List.getElem?_append_left h1] at hx
        exact hD1.2 k9 x hx
      · rw [List.getElem?_append_right (by omega)] at hx
        have := hr _ _ hx
        exact hA _ (by have := hS.1; omega)
  have hAr : ArrOfT s cA (.array ty) := fun N9 z9 => by
    obtain ⟨-, k9, hk9, cm9, hkk9⟩ := (hO 0 0 0).1
    exact ⟨(fun q hq => by cases hq), k9, hk9, cm9, hkk9⟩
  have hK2 : va_K D cl (tys ++ [(cA, .array ty)]) s := ⟨hK.1, fun k9 x hx => by
    by_cases hl : k9 < tys.length
    · rw [List.getElem?_append_left hl] at hx
      exact hK.2 k9 x hx
    · rw [List.getElem?_append_right (by omega)] at hx
      have h0 : k9 - tys.length < 1 := (List.getElem?_eq_some_iff.mp hx).1
      rw [show k9 - tys.length = 0 by omega] at hx
      cases hx
      exact ⟨hAr, fA⟩⟩
  obtain ⟨t, a1, b1⟩ := kk H.size (fun i => H.size + 1 + i) cA F.heap (fun i j _ _ h => by have h9 : H.size + 1 + i = H.size + 1 + j := h; omega) hnl hK2 (by rw [← vr_rows hnm]; exact vr_lay hP2) (by rw [← vr_rows hnm]; exact vr_layD hD2) ⟨by rw [f1]; have := hS.1; omega, fun x h1 h2 => (hold x (Nat.lt_of_lt_of_le h1 hS.1)).trans (hS.2.1 x h1 h2), hS.2.2⟩ F rfl X'
  refine ⟨t, step t ?_, b1⟩
  have e : T.heap.size = H.size := by rw [hT]
  rw [e]
  exact a1
end VGM
/-! ===== END ===== -/

/-! ===== BEGIN printed: names, fields, word lists, decode rows ===== -/
def RX0 : String := "RedTent$Body"
def TX0 : u_T := fun k => match k with
  | 0 => ("RedTent$Body", "kind", "I", true)
  | 1 => ("RedTent$Body", "start", "I", true)
  | 2 => ("RedTent$Body", "begin", "I", true)
  | 3 => ("RedTent$Body", "men", "I", true)
  | 4 => ("RedTent$Body", "fuel", "I", true)
  | 5 => ("RedTent$Body", "food", "I", false)
  | 6 => ("RedTent$Body", "fixHour", "[I", true)
  | 7 => ("RedTent$Body", "fixTold", "[I", true)
  | 8 => ("RedTent$Body", "fixCells", "[J", true)
  | 9 => ("RedTent$Body", "fixed", "I", false)
  | 10 => ("RedTent$Body", "flownLane", "[I", true)
  | 11 => ("RedTent$Body", "flownHour", "[I", true)
  | 12 => ("RedTent$Body", "flownCount", "I", false)
  | 13 => ("RedTent$Body", "patches", "[J", true)
  | _ => ("RedTent$Body", "sureTo", "I", false)
def tyX0 : Nat → FieldType := fun k => match k with
  | 0 => .int
  | 1 => .int
  | 2 => .int
  | 3 => .int
  | 4 => .int
  | 5 => .int
  | 6 => .array .int
  | 7 => .array .int
  | 8 => .array .long
  | 9 => .int
  | 10 => .array .int
  | 11 => .array .int
  | 12 => .int
  | 13 => .array .long
  | _ => .int
/-- the tables in their pieces -/
def rt_pc (a : Nat) : List Cond := match a with
  | 0 => k2_sels lw_privs
  | 1 => tables_1_1
  | 2 => tables_1_2
  | 3 => tables_1_3
  | 4 => tables_1_4
  | 5 => tables_1_5
  | 6 => tables_1_6
  | _ => tables_1_7
theorem rt_pc_in (a : Nat) (w : Cond) (h : w ∈ rt_pc a) : w ∈ lw_tbl := by
  show w ∈ k2_sels lw_privs ++ (tables_1_1 ++ (tables_1_2 ++ (tables_1_3 ++ (tables_1_4 ++ (tables_1_5 ++ (tables_1_6 ++ (tables_1_7)))))))
  simp only [List.mem_append]
  unfold rt_pc at h
  split at h
  · exact Or.inl h
  · exact Or.inr (Or.inl h)
  · exact Or.inr (Or.inr (Or.inl h))
  · exact Or.inr (Or.inr (Or.inr (Or.inl h)))
  · exact Or.inr (Or.inr (Or.inr (Or.inr (Or.inl h))))
  · exact Or.inr (Or.inr (Or.inr (Or.inr (Or.inr (Or.inl h)))))
  · exact Or.inr (Or.inr (Or.inr (Or.inr (Or.inr (Or.inr (Or.inl h))))))
  · exact Or.inr (Or.inr (Or.inr (Or.inr (Or.inr (Or.inr (Or.inr (h)))))))
theorem goodIn_q (ws : List Cond) (ps : List (Nat × Nat)) (hp : ws = ps.filterMap (fun q => (rt_pc q.1)[q.2]?)) (h : ws.all goodWord = true) : GoodIn lw_tbl ws := by
  intro w hw
  have h1 := List.all_eq_true.mp h w hw
  rw [hp] at hw
  obtain ⟨q, -, hq⟩ := List.mem_filterMap.mp hw
  exact ⟨rt_pc_in q.1 w (List.mem_of_getElem? hq), good_of_word h1⟩
/-- the tables' words that may be handed on -/
def ru_T : List Cond := lw_tbl.filter goodWord
theorem ru_in (a i : Nat) {w : Cond} (h : (rt_pc a)[i]? = some w ∧ goodWord w = true) : w ∈ ru_T := List.mem_filter.mpr ⟨rt_pc_in a w (List.mem_of_getElem? h.1), h.2⟩
theorem ru_inc (a i : Nat) {w : Cond} (h : (rt_pc a)[i]? = some w) (g : goodWord w = true) : w ∈ ru_T := ru_in a i ⟨h, g⟩
theorem ru_inq (ws : List Cond) (ps : List (Nat × Nat)) (hp : ws = ps.filterMap (fun q => (rt_pc q.1)[q.2]?)) (h : ws.all goodWord = true) : ∀ w ∈ ws, w ∈ ru_T := fun w hw => List.mem_filter.mpr ⟨(goodIn_q ws ps hp h w hw).1, List.all_eq_true.mp h w hw⟩
theorem ru_tl {w : Cond} (h : w ∈ ru_T) : w ∈ lw_tbl := (List.mem_filter.mp h).1
theorem ru_gw {c w : Cond} (h : w ∈ ru_T) : w ∈ c :: ru_T ∧ ((w.onTables && w.keeps) = true ∨ ∃ ty, w = .arrayClass ty) := ⟨List.mem_cons_of_mem _ h, good_of_word (List.mem_filter.mp h).2⟩
theorem ru_gwL {w : Cond} (h : w ∈ ru_T) : w ∈ lw_tbl ∧ ((w.onTables && w.keeps) = true ∨ ∃ ty, w = .arrayClass ty) := ⟨ru_tl h, good_of_word (List.mem_filter.mp h).2⟩
theorem ru_gc {d : Cond} (h : d ∈ ru_T) : ∀ w ∈ d :: ru_T, w ∈ ru_T := fun w hw => (List.mem_cons.mp hw).elim (fun e => by rw [e]; exact h) id
theorem ru_gV {ws : List Cond} {own C : String} {i : Nat} {y : MethodName} (h1 : Cond.methodLink own i y ∈ ru_T) (h2 : Cond.instanceMethod y ∈ ru_T) (h3 : Cond.selects C y y ∈ ru_T) (h4 : Cond.initialized C ∈ ru_T) (h5 : ∀ w ∈ ws, w ∈ ru_T) : ∀ w ∈ wsV own i C y ws, w ∈ ru_T := by
  intro w hw
  unfold wsV at hw
  simp only [List.mem_append, List.mem_cons, List.not_mem_nil, or_false] at hw
  rcases hw with (rfl | rfl | rfl | rfl) | hw
  · exact h1
  · exact h2
  · exact h3
  · exact h4
  · exact h5 w hw
theorem ru_gS {ws : List Cond} {own : String} {i : Nat} {y : MethodName} (h1 : Cond.methodLink own i y ∈ ru_T) (h2 : Cond.static y ∈ ru_T) (h4 : Cond.initialized y.cls ∈ ru_T) (h5 : ∀ w ∈ ws, w ∈ ru_T) : ∀ w ∈ va_wsS own i y ws, w ∈ ru_T := by
  intro w hw
  unfold va_wsS at hw
  simp only [List.mem_append, List.mem_cons, List.not_mem_nil, or_false] at hw
  rcases hw with (rfl | rfl | rfl) | hw
  · exact h1
  · exact h2
  · exact h4
  · exact h5 w hw
theorem ru_gG {c : Cond} {ws : List Cond} (h : ∀ w ∈ ws, w ∈ ru_T) : GoodIn (c :: ru_T) ws := fun w hw => ru_gw (h w hw)
theorem ru_gL {ws : List Cond} (h : ∀ w ∈ ws, w ∈ ru_T) : GoodIn lw_tbl ws := fun w hw => ru_gwL (h w hw)
abbrev wsX00 : List Cond := u_ws RX0 TX0 15
theorem nmX0 : ∀ a, a < 15 → ∀ b, b < 15 → a ≠ b → (TX0 a).2.1 ≠ (TX0 b).2.1 := by decide +kernel
theorem tyX0_ok : ∀ k, k < 15 → parseFieldDescriptor (TX0 k).2.2.1 = some (tyX0 k) := by decide +kernel
abbrev cX0_init : ByteArray := prog_2_method_1_code
def yX0_init : MethodName := ⟨RX0, "<init>", "(IIIIII)V"⟩
abbrev cX0_eats : ByteArray := prog_2_method_2_code
def yX0_eats : MethodName := ⟨RX0, "eats", "()I"⟩
abbrev cX0_burns : ByteArray := prog_2_method_3_code
def yX0_burns : MethodName := ⟨RX0, "burns", "()I"⟩
abbrev cX0_eatFor : ByteArray := prog_2_method_4_code
def yX0_eatFor : MethodName := ⟨RX0, "eatFor", "(I)V"⟩
abbrev cX0_foodLasts : ByteArray := prog_2_method_5_code
def yX0_foodLasts : MethodName := ⟨RX0, "foodLasts", "(I)I"⟩
abbrev cX0_isUnder : ByteArray := prog_2_method_6_code
def yX0_isUnder : MethodName := ⟨RX0, "isUnder", "(I)Z"⟩
abbrev cX0_driftIn : ByteArray := prog_2_method_7_code
def yX0_driftIn : MethodName := ⟨RX0, "driftIn", "(LRedTent$Weather;IJ)J"⟩
abbrev cX0_narrowBy : ByteArray := prog_2_method_8_code
def yX0_narrowBy : MethodName := ⟨RX0, "narrowBy", "(IIJ)V"⟩
abbrev cX0_forgetBehind : ByteArray := prog_2_method_9_code
def yX0_forgetBehind : MethodName := ⟨RX0, "forgetBehind", "(I)V"⟩
abbrev cX0_addFlown : ByteArray := prog_2_method_10_code
def yX0_addFlown : MethodName := ⟨RX0, "addFlown", "(II)I"⟩
abbrev cX0_placesKnown : ByteArray := prog_2_method_11_code
def yX0_placesKnown : MethodName := ⟨RX0, "placesKnown", "(LRedTent$Weather;II)J"⟩
abbrev cX0_placesNow : ByteArray := prog_2_method_12_code
def yX0_placesNow : MethodName := ⟨RX0, "placesNow", "(LRedTent$Weather;I)J"⟩
abbrev cX0_narrowed : ByteArray := prog_2_method_13_code
def yX0_narrowed : MethodName := ⟨RX0, "narrowed", "(JII)J"⟩
def RX1 : String := "RedTent$Breaker"
def TX1 : u_T := fun k => match k with
  | 0 => ("RedTent$Breaker", "ice", "[[I", true)
  | 1 => ("RedTent$Breaker", "rowCount", "I", false)
  | 2 => ("RedTent$Breaker", "bestCells", "I", false)
  | _ => ("RedTent$Breaker", "bestWays", "I", false)
def tyX1 : Nat → FieldType := fun k => match k with
  | 0 => .array (.array .int)
  | 1 => .int
  | 2 => .int
  | _ => .int
abbrev wsX10 : List Cond := u_ws RX1 TX1 4
theorem nmX1 : ∀ a, a < 4 → ∀ b, b < 4 → a ≠ b → (TX1 a).2.1 ≠ (TX1 b).2.1 := by decide +kernel
theorem tyX1_ok : ∀ k, k < 4 → parseFieldDescriptor (TX1 k).2.2.1 = some (tyX1 k) := by decide +kernel
abbrev cX1_init : ByteArray := prog_3_method_1_code
def yX1_init : MethodName := ⟨RX1, "<init>", "()V"⟩
abbrev cX1_addRow : ByteArray := prog_3_method_2_code
def yX1_addRow : MethodName := ⟨RX1, "addRow", "(J)I"⟩
abbrev cX1_plan : ByteArray := prog_3_method_3_code
def yX1_plan : MethodName := ⟨RX1, "plan", "(II)V"⟩
abbrev cX1_wayOn : ByteArray := prog_3_method_4_code
def yX1_wayOn : MethodName := ⟨RX1, "wayOn", "(III)I"⟩
abbrev cX1_leastCells : ByteArray := prog_3_method_5_code
def yX1_leastCells : MethodName := ⟨RX1, "leastCells", "(III)I"⟩
abbrev cX1_cellsThrough : ByteArray := prog_3_method_6_code
def yX1_cellsThrough : MethodName := ⟨RX1, "cellsThrough", "(IIII)I"⟩
def RX2 : String := "RedTent$Crew"
def TX2 : u_T := fun k => match k with
  | 0 => ("RedTent$Crew", "body", "[I", true)
  | 1 => ("RedTent$Crew", "strength", "[I", true)
  | 2 => ("RedTent$Crew", "hurt", "[I", true)
  | 3 => ("RedTent$Crew", "skill", "[I", true)
  | 4 => ("RedTent$Crew", "takes", "[I", true)
  | _ => ("RedTent$Crew", "men", "I", false)
def tyX2 : Nat → FieldType := fun k => match k with
  | 0 => .array .int
  | 1 => .array .int
  | 2 => .array .int
  | 3 => .array .int
  | 4 => .array .int
  | _ => .int
abbrev wsX20 : List Cond := u_ws RX2 TX2 6
theorem nmX2 : ∀ a, a < 6 → ∀ b, b < 6 → a ≠ b → (TX2 a).2.1 ≠ (TX2 b).2.1 := by decide +kernel
theorem tyX2_ok : ∀ k, k < 6 → parseFieldDescriptor (TX2 k).2.2.1 = some (tyX2 k) := by decide +kernel
abbrev cX2_init : ByteArray := prog_4_method_1_code
def yX2_init : MethodName := ⟨RX2, "<init>", "()V"⟩
abbrev cX2_addMan : ByteArray := prog_4_method_2_code
def yX2_addMan : MethodName := ⟨RX2, "addMan", "(IIII)I"⟩
abbrev cX2_inTurn : ByteArray := prog_4_method_3_code
def yX2_inTurn : MethodName := ⟨RX2, "inTurn", "(II)I"⟩
abbrev cX2_aheadOf : ByteArray := prog_4_method_4_code
def yX2_aheadOf : MethodName := ⟨RX2, "aheadOf", "(I)I"⟩
def RX3 : String := "RedTent$Orders"
def TX3 : u_T := fun k => match k with
  | 0 => ("RedTent$Orders", "tape", "[I", true)
  | 1 => ("RedTent$Orders", "tapeSize", "I", false)
  | 2 => ("RedTent$Orders", "texts", "[LRedTent$Text;", true)
  | 3 => ("RedTent$Orders", "textCount", "I", false)
  | 4 => ("RedTent$Orders", "inForce", "I", false)
  | 5 => ("RedTent$Orders", "reader", "LRedTent$Reader;", true)
  | 6 => ("RedTent$Orders", "names", "[I", true)
  | _ => ("RedTent$Orders", "stack", "[I", true)
def tyX3 : Nat → FieldType := fun k => match k with
  | 0 => .array .int
  | 1 => .int
  | 2 => .array (.object "RedTent$Text")
  | 3 => .int
  | 4 => .int
  | 5 => .object "RedTent$Reader"
  | 6 => .array .int
  | _ => .array .int
abbrev wsX30 : List Cond := u_ws RX3 TX3 8
theorem nmX3 : ∀ a, a < 8 → ∀ b, b < 8 → a ≠ b → (TX3 a).2.1 ≠ (TX3 b).2.1 := by decide +kernel
theorem tyX3_ok : ∀ k, k < 8 → parseFieldDescriptor (TX3 k).2.2.1 = some (tyX3 k) := by decide +kernel
abbrev cX3_init : ByteArray := prog_5_method_1_code
def yX3_init : MethodName := ⟨RX3, "<init>", "()V"⟩
abbrev cX3_addBytes : ByteArray := prog_5_method_2_code
def yX3_addBytes : MethodName := ⟨RX3, "addBytes", "(IJ)I"⟩
abbrev cX3_readTape : ByteArray := prog_5_method_3_code
def yX3_readTape : MethodName := ⟨RX3, "readTape", "()I"⟩
abbrev cX3_ask : ByteArray := prog_5_method_4_code
def yX3_ask : MethodName := ⟨RX3, "ask", "(IIIIIII)I"⟩
def RX4 : String := "RedTent$Radio"
def TX4 : u_T := fun k => match k with
  | 0 => ("RedTent$Radio", "hearerCell", "[I", true)
  | 1 => ("RedTent$Radio", "hearers", "I", false)
  | 2 => ("RedTent$Radio", "heardFrom", "[I", true)
  | 3 => ("RedTent$Radio", "heardTo", "[I", true)
  | 4 => ("RedTent$Radio", "callBody", "[I", true)
  | 5 => ("RedTent$Radio", "callWave", "[I", true)
  | 6 => ("RedTent$Radio", "callHour", "[I", true)
  | 7 => ("RedTent$Radio", "callWords", "[J", true)
  | 8 => ("RedTent$Radio", "calls", "I", false)
  | 9 => ("RedTent$Radio", "partCall", "[I", true)
  | 10 => ("RedTent$Radio", "partHeard", "[I", true)
  | 11 => ("RedTent$Radio", "partWords", "[J", true)
  | _ => ("RedTent$Radio", "parts", "I", false)
def tyX4 : Nat → FieldType := fun k => match k with
  | 0 => .array .int
  | 1 => .int
  | 2 => .array .int
  | 3 => .array .int
  | 4 => .array .int
  | 5 => .array .int
  | 6 => .array .int
  | 7 => .array .long
  | 8 => .int
  | 9 => .array .int
  | 10 => .array .int
  | 11 => .array .long
  | _ => .int
abbrev wsX40 : List Cond := u_ws RX4 TX4 13
theorem nmX4 : ∀ a, a < 13 → ∀ b, b < 13 → a ≠ b → (TX4 a).2.1 ≠ (TX4 b).2.1 := by decide +kernel
theorem tyX4_ok : ∀ k, k < 13 → parseFieldDescriptor (TX4 k).2.2.1 = some (tyX4 k) := by decide +kernel
abbrev cX4_init : ByteArray := prog_6_method_1_code
def yX4_init : MethodName := ⟨RX4, "<init>", "()V"⟩
abbrev cX4_addHearer : ByteArray := prog_6_method_2_code
def yX4_addHearer : MethodName := ⟨RX4, "addHearer", "(I)I"⟩
abbrev cX4_setWave : ByteArray := prog_6_method_3_code
def yX4_setWave : MethodName := ⟨RX4, "setWave", "(III)I"⟩
abbrev cX4_hasCall : ByteArray := prog_6_method_4_code
def yX4_hasCall : MethodName := ⟨RX4, "hasCall", "(I)Z"⟩
abbrev cX4_addCall : ByteArray := prog_6_method_5_code
def yX4_addCall : MethodName := ⟨RX4, "addCall", "(IIIJ)I"⟩
abbrev cX4_addPart : ByteArray := prog_6_method_6_code
def yX4_addPart : MethodName := ⟨RX4, "addPart", "(IIJ)I"⟩
abbrev cX4_hearersOf : ByteArray := prog_6_method_7_code
def yX4_hearersOf : MethodName := ⟨RX4, "hearersOf", "(IJ)I"⟩
abbrev cX4_isAnyApart : ByteArray := prog_6_method_8_code
def yX4_isAnyApart : MethodName := ⟨RX4, "isAnyApart", "(JIII)Z"⟩
abbrev cX4_putTogether : ByteArray := prog_6_method_9_code
def yX4_putTogether : MethodName := ⟨RX4, "putTogether", "(II)I"⟩
abbrev cX4_isAsSent : ByteArray := prog_6_method_10_code
def yX4_isAsSent : MethodName := ⟨RX4, "isAsSent", "(I)Z"⟩
abbrev cX4_digit : ByteArray := prog_6_method_11_code
def yX4_digit : MethodName := ⟨RX4, "digit", "(JI)I"⟩
def RX5 : String := "RedTent$Reader"
def TX5 : u_T := fun k => match k with
  | 0 => ("RedTent$Reader", "bytes", "[I", false)
  | 1 => ("RedTent$Reader", "size", "I", false)
  | 2 => ("RedTent$Reader", "tokens", "[I", true)
  | 3 => ("RedTent$Reader", "starts", "[I", true)
  | 4 => ("RedTent$Reader", "numbers", "[I", true)
  | 5 => ("RedTent$Reader", "made", "LRedTent$Text;", true)
  | 6 => ("RedTent$Reader", "at", "I", false)
  | _ => ("RedTent$Reader", "fault", "I", false)
def tyX5 : Nat → FieldType := fun k => match k with
  | 0 => .array .int
  | 1 => .int
  | 2 => .array .int
  | 3 => .array .int
  | 4 => .array .int
  | 5 => .object "RedTent$Text"
  | 6 => .int
  | _ => .int
abbrev wsX50 : List Cond := u_ws RX5 TX5 8
theorem nmX5 : ∀ a, a < 8 → ∀ b, b < 8 → a ≠ b → (TX5 a).2.1 ≠ (TX5 b).2.1 := by decide +kernel
theorem tyX5_ok : ∀ k, k < 8 → parseFieldDescriptor (TX5 k).2.2.1 = some (tyX5 k) := by decide +kernel
abbrev cX5_init : ByteArray := prog_7_method_1_code
def yX5_init : MethodName := ⟨RX5, "<init>", "()V"⟩
abbrev cX5_readAll : ByteArray := prog_7_method_2_code
def yX5_readAll : MethodName := ⟨RX5, "readAll", "([II)I"⟩
abbrev cX5_sees : ByteArray := prog_7_method_3_code
def yX5_sees : MethodName := ⟨RX5, "sees", "(I)Z"⟩
abbrev cX5_advance : ByteArray := prog_7_method_4_code
def yX5_advance : MethodName := ⟨RX5, "advance", "()V"⟩
abbrev cX5_fail : ByteArray := prog_7_method_5_code
def yX5_fail : MethodName := ⟨RX5, "fail", "()V"⟩
abbrev cX5_need : ByteArray := prog_7_method_6_code
def yX5_need : MethodName := ⟨RX5, "need", "(I)V"⟩
abbrev cX5_readChoice : ByteArray := prog_7_method_7_code
def yX5_readChoice : MethodName := ⟨RX5, "readChoice", "(I)V"⟩
abbrev cX5_readBoth : ByteArray := prog_7_method_8_code
def yX5_readBoth : MethodName := ⟨RX5, "readBoth", "(I)V"⟩
abbrev cX5_readNot : ByteArray := prog_7_method_9_code
def yX5_readNot : MethodName := ⟨RX5, "readNot", "(I)V"⟩
abbrev cX5_readCompared : ByteArray := prog_7_method_10_code
def yX5_readCompared : MethodName := ⟨RX5, "readCompared", "(I)V"⟩
abbrev cX5_readSum : ByteArray := prog_7_method_11_code
def yX5_readSum : MethodName := ⟨RX5, "readSum", "(I)V"⟩
abbrev cX5_readTerm : ByteArray := prog_7_method_12_code
def yX5_readTerm : MethodName := ⟨RX5, "readTerm", "(I)V"⟩
abbrev cX5_readOne : ByteArray := prog_7_method_13_code
def yX5_readOne : MethodName := ⟨RX5, "readOne", "(I)V"⟩
abbrev cX5_cutTokens : ByteArray := prog_7_method_14_code
def yX5_cutTokens : MethodName := ⟨RX5, "cutTokens", "()V"⟩
abbrev cX5_cutOne : ByteArray := prog_7_method_15_code
def yX5_cutOne : MethodName := ⟨RX5, "cutOne", "(II)I"⟩
abbrev cX5_wordOf : ByteArray := prog_7_method_16_code
def yX5_wordOf : MethodName := ⟨RX5, "wordOf", "(II)I"⟩
abbrev cX5_isSpelt : ByteArray := prog_7_method_17_code
def yX5_isSpelt : MethodName := ⟨RX5, "isSpelt", "(Ljava/lang/String;II)Z"⟩
abbrev cX5_isBlank : ByteArray := prog_7_method_18_code
def yX5_isBlank : MethodName := ⟨RX5, "isBlank", "(I)Z"⟩
abbrev cX5_isLetter : ByteArray := prog_7_method_19_code
def yX5_isLetter : MethodName := ⟨RX5, "isLetter", "(I)Z"⟩
abbrev cX5_isDigit : ByteArray := prog_7_method_20_code
def yX5_isDigit : MethodName := ⟨RX5, "isDigit", "(I)Z"⟩
abbrev cX5_isSign : ByteArray := prog_7_method_21_code
def yX5_isSign : MethodName := ⟨RX5, "isSign", "(I)Z"⟩
abbrev cX5_nthWord : ByteArray := prog_7_method_22_code
def yX5_nthWord : MethodName := ⟨RX5, "nthWord", "(I)Ljava/lang/String;"⟩
def RX6 : String := "RedTent$Search"
def TX6 : u_T := fun k => match k with
  | 0 => ("RedTent$Search", "lanes", "[J", true)
  | 1 => ("RedTent$Search", "laneCount", "I", false)
  | 2 => ("RedTent$Search", "weights", "[J", true)
  | 3 => ("RedTent$Search", "allWeight", "J", false)
  | 4 => ("RedTent$Search", "tried", "[I", true)
  | 5 => ("RedTent$Search", "chosen", "[I", true)
  | _ => ("RedTent$Search", "chosenWeight", "J", false)
def tyX6 : Nat → FieldType := fun k => match k with
  | 0 => .array .long
  | 1 => .int
  | 2 => .array .long
  | 3 => .long
  | 4 => .array .int
  | 5 => .array .int
  | _ => .long
abbrev wsX60 : List Cond := u_ws RX6 TX6 7
theorem nmX6 : ∀ a, a < 7 → ∀ b, b < 7 → a ≠ b → (TX6 a).2.1 ≠ (TX6 b).2.1 := by decide +kernel
theorem tyX6_ok : ∀ k, k < 7 → parseFieldDescriptor (TX6 k).2.2.1 = some (tyX6 k) := by decide +kernel
abbrev cX6_init : ByteArray := prog_8_method_1_code
def yX6_init : MethodName := ⟨RX6, "<init>", "()V"⟩
abbrev cX6_addLane : ByteArray := prog_8_method_2_code
def yX6_addLane : MethodName := ⟨RX6, "addLane", "(J)I"⟩
abbrev cX6_weigh : ByteArray := prog_8_method_3_code
def yX6_weigh : MethodName := ⟨RX6, "weigh", "(LRedTent$Body;JLRedTent$Weather;)V"⟩
abbrev cX6_weightIn : ByteArray := prog_8_method_4_code
def yX6_weightIn : MethodName := ⟨RX6, "weightIn", "(LRedTent$Body;ILRedTent$Weather;)J"⟩
abbrev cX6_shareOf : ByteArray := prog_8_method_5_code
def yX6_shareOf : MethodName := ⟨RX6, "shareOf", "(II)J"⟩
abbrev cX6_commonDivisor : ByteArray := prog_8_method_6_code
def yX6_commonDivisor : MethodName := ⟨RX6, "commonDivisor", "(JJ)J"⟩
abbrev cX6_thousandths : ByteArray := prog_8_method_7_code
def yX6_thousandths : MethodName := ⟨RX6, "thousandths", "()I"⟩
abbrev cX6_choose : ByteArray := prog_8_method_8_code
def yX6_choose : MethodName := ⟨RX6, "choose", "(II)V"⟩
abbrev cX6_tryLanes : ByteArray := prog_8_method_9_code
def yX6_tryLanes : MethodName := ⟨RX6, "tryLanes", "(IIIIJ)V"⟩
abbrev cX6_keepIfBetter : ByteArray := prog_8_method_10_code
def yX6_keepIfBetter : MethodName := ⟨RX6, "keepIfBetter", "(J)V"⟩
def RX7 : String := "RedTent$Sheet"
def TX7 : u_T := fun k => match k with
  | 0 => ("RedTent$Sheet", "items", "[I", true)
  | 1 => ("RedTent$Sheet", "sort", "I", false)
  | _ => ("RedTent$Sheet", "size", "I", false)
def tyX7 : Nat → FieldType := fun k => match k with
  | 0 => .array .int
  | 1 => .int
  | _ => .int
abbrev wsX70 : List Cond := u_ws RX7 TX7 3
theorem nmX7 : ∀ a, a < 3 → ∀ b, b < 3 → a ≠ b → (TX7 a).2.1 ≠ (TX7 b).2.1 := by decide +kernel
theorem tyX7_ok : ∀ k, k < 3 → parseFieldDescriptor (TX7 k).2.2.1 = some (tyX7 k) := by decide +kernel
abbrev cX7_init : ByteArray := prog_9_method_1_code
def yX7_init : MethodName := ⟨RX7, "<init>", "()V"⟩
abbrev cX7_become : ByteArray := prog_9_method_2_code
def yX7_become : MethodName := ⟨RX7, "become", "(II)V"⟩
abbrev cX7_hasItem : ByteArray := prog_9_method_3_code
def yX7_hasItem : MethodName := ⟨RX7, "hasItem", "(I)Z"⟩
abbrev cX7_hasStretch : ByteArray := prog_9_method_4_code
def yX7_hasStretch : MethodName := ⟨RX7, "hasStretch", "(II)Z"⟩
abbrev cX7_put : ByteArray := prog_9_method_5_code
def yX7_put : MethodName := ⟨RX7, "put", "(II)V"⟩
def RX8 : String := "RedTent$Stories"
def TX8 : u_T := fun k => match k with
  | 0 => ("RedTent$Stories", "body", "[I", true)
  | 1 => ("RedTent$Stories", "cell", "[I", true)
  | 2 => ("RedTent$Stories", "hour", "[I", true)
  | _ => ("RedTent$Stories", "told", "I", false)
def tyX8 : Nat → FieldType := fun k => match k with
  | 0 => .array .int
  | 1 => .array .int
  | 2 => .array .int
  | _ => .int
abbrev wsX80 : List Cond := u_ws RX8 TX8 4
theorem nmX8 : ∀ a, a < 4 → ∀ b, b < 4 → a ≠ b → (TX8 a).2.1 ≠ (TX8 b).2.1 := by decide +kernel
theorem tyX8_ok : ∀ k, k < 4 → parseFieldDescriptor (TX8 k).2.2.1 = some (tyX8 k) := by decide +kernel
abbrev cX8_init : ByteArray := prog_10_method_1_code
def yX8_init : MethodName := ⟨RX8, "<init>", "()V"⟩
abbrev cX8_hasStory : ByteArray := prog_10_method_2_code
def yX8_hasStory : MethodName := ⟨RX8, "hasStory", "(I)Z"⟩
abbrev cX8_addStory : ByteArray := prog_10_method_3_code
def yX8_addStory : MethodName := ⟨RX8, "addStory", "(III)I"⟩
def RX9 : String := "RedTent$Text"
def TX9 : u_T := fun k => match k with
  | 0 => ("RedTent$Text", "steps", "[I", true)
  | 1 => ("RedTent$Text", "size", "I", false)
  | _ => ("RedTent$Text", "goFrom", "I", false)
def tyX9 : Nat → FieldType := fun k => match k with
  | 0 => .array .int
  | 1 => .int
  | _ => .int
abbrev wsX90 : List Cond := u_ws RX9 TX9 3
theorem nmX9 : ∀ a, a < 3 → ∀ b, b < 3 → a ≠ b → (TX9 a).2.1 ≠ (TX9 b).2.1 := by decide +kernel
theorem tyX9_ok : ∀ k, k < 3 → parseFieldDescriptor (TX9 k).2.2.1 = some (tyX9 k) := by decide +kernel
abbrev cX9_init : ByteArray := prog_11_method_1_code
def yX9_init : MethodName := ⟨RX9, "<init>", "()V"⟩
abbrev cX9_clear : ByteArray := prog_11_method_2_code
def yX9_clear : MethodName := ⟨RX9, "clear", "()V"⟩
abbrev cX9_beFirst : ByteArray := prog_11_method_3_code
def yX9_beFirst : MethodName := ⟨RX9, "beFirst", "()V"⟩
abbrev cX9_become : ByteArray := prog_11_method_4_code
def yX9_become : MethodName := ⟨RX9, "become", "(LRedTent$Text;)V"⟩
abbrev cX9_addStep : ByteArray := prog_11_method_5_code
def yX9_addStep : MethodName := ⟨RX9, "addStep", "(I)V"⟩
abbrev cX9_valueOf : ByteArray := prog_11_method_6_code
def yX9_valueOf : MethodName := ⟨RX9, "valueOf", "(I[I[I)I"⟩
abbrev cX9_afterStep : ByteArray := prog_11_method_7_code
def yX9_afterStep : MethodName := ⟨RX9, "afterStep", "(I[I[II)I"⟩
abbrev cX9_put : ByteArray := prog_11_method_8_code
def yX9_put : MethodName := ⟨RX9, "put", "(I[II)I"⟩
abbrev cX9_joined : ByteArray := prog_11_method_9_code
def yX9_joined : MethodName := ⟨RX9, "joined", "(III)I"⟩
abbrev cX9_truth : ByteArray := prog_11_method_10_code
def yX9_truth : MethodName := ⟨RX9, "truth", "(Z)I"⟩
def RX10 : String := "RedTent$Weather"
def TX10 : u_T := fun k => match k with
  | 0 => ("RedTent$Weather", "windBy", "[I", true)
  | 1 => ("RedTent$Weather", "fogIn", "[I", true)
  | 2 => ("RedTent$Weather", "windCount", "I", false)
  | _ => ("RedTent$Weather", "fogCount", "I", false)
def tyX10 : Nat → FieldType := fun k => match k with
  | 0 => .array .int
  | 1 => .array .int
  | 2 => .int
  | _ => .int
abbrev wsX100 : List Cond := u_ws RX10 TX10 4
theorem nmX10 : ∀ a, a < 4 → ∀ b, b < 4 → a ≠ b → (TX10 a).2.1 ≠ (TX10 b).2.1 := by decide +kernel
theorem tyX10_ok : ∀ k, k < 4 → parseFieldDescriptor (TX10 k).2.2.1 = some (tyX10 k) := by decide +kernel
abbrev cX10_init : ByteArray := prog_12_method_1_code
def yX10_init : MethodName := ⟨RX10, "<init>", "()V"⟩
abbrev cX10_tellWind : ByteArray := prog_12_method_2_code
def yX10_tellWind : MethodName := ⟨RX10, "tellWind", "(III)V"⟩
abbrev cX10_tellFog : ByteArray := prog_12_method_3_code
def yX10_tellFog : MethodName := ⟨RX10, "tellFog", "(III)V"⟩
abbrev cX10_setHours : ByteArray := prog_12_method_4_code
def yX10_setHours : MethodName := ⟨RX10, "setHours", "([IIII)V"⟩
abbrev cX10_fogAt : ByteArray := prog_12_method_5_code
def yX10_fogAt : MethodName := ⟨RX10, "fogAt", "(I)I"⟩
abbrev cX10_isClear : ByteArray := prog_12_method_6_code
def yX10_isClear : MethodName := ⟨RX10, "isClear", "(II)Z"⟩
abbrev cX10_blow : ByteArray := prog_12_method_7_code
def yX10_blow : MethodName := ⟨RX10, "blow", "(IJI)J"⟩
def RX11 : String := "RedTent"
def TX11 : u_T := fun k => match k with
  | 0 => ("RedTent", "weather", "LRedTent$Weather;", true)
  | 1 => ("RedTent", "bodies", "[LRedTent$Body;", true)
  | 2 => ("RedTent", "radio", "LRedTent$Radio;", true)
  | 3 => ("RedTent", "search", "LRedTent$Search;", true)
  | 4 => ("RedTent", "crew", "LRedTent$Crew;", true)
  | 5 => ("RedTent", "orders", "LRedTent$Orders;", true)
  | 6 => ("RedTent", "stories", "LRedTent$Stories;", true)
  | 7 => ("RedTent", "breaker", "LRedTent$Breaker;", true)
  | 8 => ("RedTent", "sheets", "[LRedTent$Sheet;", true)
  | 9 => ("RedTent", "now", "I", false)
  | 10 => ("RedTent", "bodyCount", "I", false)
  | 11 => ("RedTent", "fixCount", "I", false)
  | _ => ("RedTent", "stayHours", "I", false)
def tyX11 : Nat → FieldType := fun k => match k with
  | 0 => .object "RedTent$Weather"
  | 1 => .array (.object "RedTent$Body")
  | 2 => .object "RedTent$Radio"
  | 3 => .object "RedTent$Search"
  | 4 => .object "RedTent$Crew"
  | 5 => .object "RedTent$Orders"
  | 6 => .object "RedTent$Stories"
  | 7 => .object "RedTent$Breaker"
  | 8 => .array (.object "RedTent$Sheet")
  | 9 => .int
  | 10 => .int
  | 11 => .int
  | _ => .int
abbrev wsX110 : List Cond := u_ws RX11 TX11 13
theorem nmX11 : ∀ a, a < 13 → ∀ b, b < 13 → a ≠ b → (TX11 a).2.1 ≠ (TX11 b).2.1 := by decide +kernel
theorem tyX11_ok : ∀ k, k < 13 → parseFieldDescriptor (TX11 k).2.2.1 = some (tyX11 k) := by decide +kernel
abbrev cX11_init : ByteArray := prog_1_method_1_code
def yX11_init : MethodName := ⟨RX11, "<init>", "()V"⟩
abbrev cX11_pass : ByteArray := prog_1_method_2_code
def yX11_pass : MethodName := ⟨RX11, "pass", "(I)I"⟩
abbrev cX11_wind : ByteArray := prog_1_method_3_code
def yX11_wind : MethodName := ⟨RX11, "wind", "(III)I"⟩
abbrev cX11_fog : ByteArray := prog_1_method_4_code
def yX11_fog : MethodName := ⟨RX11, "fog", "(III)I"⟩
abbrev cX11_body : ByteArray := prog_1_method_5_code
def yX11_body : MethodName := ⟨RX11, "body", "(IIIII)I"⟩
abbrev cX11_bodyTold : ByteArray := prog_1_method_6_code
def yX11_bodyTold : MethodName := ⟨RX11, "bodyTold", "(II)I"⟩
abbrev cX11_patch : ByteArray := prog_1_method_7_code
def yX11_patch : MethodName := ⟨RX11, "patch", "(III)J"⟩
abbrev cX11_fix : ByteArray := prog_1_method_8_code
def yX11_fix : MethodName := ⟨RX11, "fix", "(IIJ)I"⟩
abbrev cX11_hearer : ByteArray := prog_1_method_9_code
def yX11_hearer : MethodName := ⟨RX11, "hearer", "(I)I"⟩
abbrev cX11_wave : ByteArray := prog_1_method_10_code
def yX11_wave : MethodName := ⟨RX11, "wave", "(IIII)I"⟩
abbrev cX11_call : ByteArray := prog_1_method_11_code
def yX11_call : MethodName := ⟨RX11, "call", "(IIJ)I"⟩
abbrev cX11_canHear : ByteArray := prog_1_method_12_code
def yX11_canHear : MethodName := ⟨RX11, "canHear", "(II)I"⟩
abbrev cX11_part : ByteArray := prog_1_method_13_code
def yX11_part : MethodName := ⟨RX11, "part", "(IIIJ)I"⟩
abbrev cX11_word : ByteArray := prog_1_method_14_code
def yX11_word : MethodName := ⟨RX11, "word", "(II)I"⟩
abbrev cX11_isTrue : ByteArray := prog_1_method_15_code
def yX11_isTrue : MethodName := ⟨RX11, "isTrue", "(I)I"⟩
abbrev cX11_lane : ByteArray := prog_1_method_16_code
def yX11_lane : MethodName := ⟨RX11, "lane", "(J)I"⟩
abbrev cX11_flown : ByteArray := prog_1_method_17_code
def yX11_flown : MethodName := ⟨RX11, "flown", "(III)I"⟩
abbrev cX11_share : ByteArray := prog_1_method_18_code
def yX11_share : MethodName := ⟨RX11, "share", "(III)J"⟩
abbrev cX11_parted : ByteArray := prog_1_method_19_code
def yX11_parted : MethodName := ⟨RX11, "parted", "(IIII)I"⟩
abbrev cX11_stays : ByteArray := prog_1_method_20_code
def yX11_stays : MethodName := ⟨RX11, "stays", "(I)I"⟩
abbrev cX11_comes : ByteArray := prog_1_method_21_code
def yX11_comes : MethodName := ⟨RX11, "comes", "(IIII)I"⟩
abbrev cX11_last : ByteArray := prog_1_method_22_code
def yX11_last : MethodName := ⟨RX11, "last", "(III)I"⟩
abbrev cX11_man : ByteArray := prog_1_method_23_code
def yX11_man : MethodName := ⟨RX11, "man", "(IIII)I"⟩
abbrev cX11_feed : ByteArray := prog_1_method_24_code
def yX11_feed : MethodName := ⟨RX11, "feed", "(IJ)I"⟩
abbrev cX11_text : ByteArray := prog_1_method_25_code
def yX11_text : MethodName := ⟨RX11, "text", "()I"⟩
abbrev cX11_force : ByteArray := prog_1_method_26_code
def yX11_force : MethodName := ⟨RX11, "force", "(I)I"⟩
abbrev cX11_says : ByteArray := prog_1_method_27_code
def yX11_says : MethodName := ⟨RX11, "says", "(III)J"⟩
abbrev cX11_first : ByteArray := prog_1_method_28_code
def yX11_first : MethodName := ⟨RX11, "first", "(II)I"⟩
abbrev cX11_story : ByteArray := prog_1_method_29_code
def yX11_story : MethodName := ⟨RX11, "story", "(III)I"⟩
abbrev cX11_unfit : ByteArray := prog_1_method_30_code
def yX11_unfit : MethodName := ⟨RX11, "unfit", "()I"⟩
abbrev cX11_clash : ByteArray := prog_1_method_31_code
def yX11_clash : MethodName := ⟨RX11, "clash", "(II)I"⟩
abbrev cX11_row : ByteArray := prog_1_method_32_code
def yX11_row : MethodName := ⟨RX11, "row", "(J)I"⟩
abbrev cX11_days : ByteArray := prog_1_method_33_code
def yX11_days : MethodName := ⟨RX11, "days", "(III)I"⟩
abbrev cX11_count : ByteArray := prog_1_method_34_code
def yX11_count : MethodName := ⟨RX11, "count", "(I)I"⟩
abbrev cX11_sheet : ByteArray := prog_1_method_35_code
def yX11_sheet : MethodName := ⟨RX11, "sheet", "(III)I"⟩
abbrev cX11_cell : ByteArray := prog_1_method_36_code
def yX11_cell : MethodName := ⟨RX11, "cell", "(III)I"⟩
abbrev cX11_copy : ByteArray := prog_1_method_37_code
def yX11_copy : MethodName := ⟨RX11, "copy", "(IIIII)I"⟩
abbrev cX11_fixes : ByteArray := prog_1_method_38_code
def yX11_fixes : MethodName := ⟨RX11, "fixes", "(IIIII)I"⟩
abbrev cX11_taken : ByteArray := prog_1_method_39_code
def yX11_taken : MethodName := ⟨RX11, "taken", "(II)I"⟩
abbrev cX11_bodyAt : ByteArray := prog_1_method_40_code
def yX11_bodyAt : MethodName := ⟨RX11, "bodyAt", "(I)LRedTent$Body;"⟩
abbrev cX11_seekerAt : ByteArray := prog_1_method_41_code
def yX11_seekerAt : MethodName := ⟨RX11, "seekerAt", "(I)LRedTent$Body;"⟩
abbrev cX11_sheetAt : ByteArray := prog_1_method_42_code
def yX11_sheetAt : MethodName := ⟨RX11, "sheetAt", "(I)LRedTent$Sheet;"⟩
abbrev cX11_isPast : ByteArray := prog_1_method_43_code
def yX11_isPast : MethodName := ⟨RX11, "isPast", "(I)Z"⟩
abbrev cX11_areSeekers : ByteArray := prog_1_method_44_code
def yX11_areSeekers : MethodName := ⟨RX11, "areSeekers", "(I)Z"⟩
abbrev cX11_backFrom : ByteArray := prog_1_method_45_code
def yX11_backFrom : MethodName := ⟨RX11, "backFrom", "(LRedTent$Body;II)I"⟩
abbrev cX11_takeOf : ByteArray := prog_1_method_46_code
def yX11_takeOf : MethodName := ⟨RX11, "takeOf", "(I)I"⟩
abbrev cX11_isCell : ByteArray := prog_1_method_47_code
def yX11_isCell : MethodName := ⟨RX11, "isCell", "(I)Z"⟩
abbrev cX11_isMark : ByteArray := prog_1_method_48_code
def yX11_isMark : MethodName := ⟨RX11, "isMark", "(I)Z"⟩
abbrev cX11_isSpan : ByteArray := prog_1_method_49_code
def yX11_isSpan : MethodName := ⟨RX11, "isSpan", "(II)Z"⟩
abbrev cX11_isWind : ByteArray := prog_1_method_50_code
def yX11_isWind : MethodName := ⟨RX11, "isWind", "(I)Z"⟩
abbrev cX11_has : ByteArray := prog_1_method_51_code
def yX11_has : MethodName := ⟨RX11, "has", "(JI)Z"⟩
abbrev cX11_apart : ByteArray := prog_1_method_52_code
def yX11_apart : MethodName := ⟨RX11, "apart", "(II)I"⟩
abbrev cX11_nearest : ByteArray := prog_1_method_53_code
def yX11_nearest : MethodName := ⟨RX11, "nearest", "(IJ)I"⟩
abbrev cX11_byColumns : ByteArray := prog_1_method_54_code
def yX11_byColumns : MethodName := ⟨RX11, "byColumns", "(JI)J"⟩
abbrev cX11_byRows : ByteArray := prog_1_method_55_code
def yX11_byRows : MethodName := ⟨RX11, "byRows", "(JI)J"⟩
def RX12 : String := "RedTentModel"
def TX12 : u_T := fun k => match k with
  | 0 => ("RedTentModel", "hour", "I", false)
  | 1 => ("RedTentModel", "stay", "I", false)
  | 2 => ("RedTentModel", "windFrom", "[I", true)
  | 3 => ("RedTentModel", "windTo", "[I", true)
  | 4 => ("RedTentModel", "windBy", "[I", true)
  | 5 => ("RedTentModel", "winds", "I", false)
  | 6 => ("RedTentModel", "fogFrom", "[I", true)
  | 7 => ("RedTentModel", "fogTo", "[I", true)
  | 8 => ("RedTentModel", "fogIs", "[I", true)
  | 9 => ("RedTentModel", "fogs", "I", false)
  | 10 => ("RedTentModel", "kind", "[I", true)
  | 11 => ("RedTentModel", "began", "[I", true)
  | 12 => ("RedTentModel", "cellOf", "[I", true)
  | 13 => ("RedTentModel", "menOf", "[I", true)
  | 14 => ("RedTentModel", "food", "[I", true)
  | 15 => ("RedTentModel", "fuel", "[I", true)
  | 16 => ("RedTentModel", "bodies", "I", false)
  | 17 => ("RedTentModel", "fixBody", "[I", true)
  | 18 => ("RedTentModel", "fixHour", "[I", true)
  | 19 => ("RedTentModel", "fixCells", "[J", true)
  | 20 => ("RedTentModel", "fixTold", "[I", true)
  | 21 => ("RedTentModel", "fixings", "I", false)
  | 22 => ("RedTentModel", "hearerCell", "[I", true)
  | 23 => ("RedTentModel", "hearers", "I", false)
  | 24 => ("RedTentModel", "waveFrom", "[I", true)
  | 25 => ("RedTentModel", "waveTo", "[I", true)
  | 26 => ("RedTentModel", "callBody", "[I", true)
  | 27 => ("RedTentModel", "callWave", "[I", true)
  | 28 => ("RedTentModel", "callHour", "[I", true)
  | 29 => ("RedTentModel", "callWords", "[J", true)
  | 30 => ("RedTentModel", "calls", "I", false)
  | 31 => ("RedTentModel", "partCall", "[I", true)
  | 32 => ("RedTentModel", "partHeard", "[I", true)
  | 33 => ("RedTentModel", "partWords", "[J", true)
  | 34 => ("RedTentModel", "parts", "I", false)
  | 35 => ("RedTentModel", "lanes", "[J", true)
  | 36 => ("RedTentModel", "laneMany", "I", false)
  | 37 => ("RedTentModel", "flownLane", "[I", true)
  | 38 => ("RedTentModel", "flownFog", "[I", true)
  | 39 => ("RedTentModel", "flownMany", "[I", true)
  | 40 => ("RedTentModel", "manBody", "[I", true)
  | 41 => ("RedTentModel", "strength", "[I", true)
  | 42 => ("RedTentModel", "hurt", "[I", true)
  | 43 => ("RedTentModel", "skill", "[I", true)
  | 44 => ("RedTentModel", "men", "I", false)
  | 45 => ("RedTentModel", "storyBody", "[I", true)
  | 46 => ("RedTentModel", "storyCell", "[I", true)
  | 47 => ("RedTentModel", "storyHour", "[I", true)
  | 48 => ("RedTentModel", "stories", "I", false)
  | 49 => ("RedTentModel", "ice", "[I", true)
  | 50 => ("RedTentModel", "rows", "I", false)
  | 51 => ("RedTentModel", "tape", "[I", true)
  | 52 => ("RedTentModel", "tapeMany", "I", false)
  | 53 => ("RedTentModel", "text", "[I", true)
  | 54 => ("RedTentModel", "textMany", "[I", true)
  | 55 => ("RedTentModel", "texts", "I", false)
  | 56 => ("RedTentModel", "order", "I", false)
  | 57 => ("RedTentModel", "weight", "[J", true)
  | 58 => ("RedTentModel", "allWeigh", "J", false)
  | 59 => ("RedTentModel", "trying", "[I", true)
  | 60 => ("RedTentModel", "best", "[I", true)
  | 61 => ("RedTentModel", "bestWeigh", "J", false)
  | 62 => ("RedTentModel", "base", "I", false)
  | 63 => ("RedTentModel", "ends", "I", false)
  | 64 => ("RedTentModel", "from", "I", false)
  | 65 => ("RedTentModel", "to", "I", false)
  | 66 => ("RedTentModel", "open", "I", false)
  | 67 => ("RedTentModel", "fault", "I", false)
  | 68 => ("RedTentModel", "names", "[I", true)
  | 69 => ("RedTentModel", "takes", "I", false)
  | 70 => ("RedTentModel", "goes", "I", false)
  | 71 => ("RedTentModel", "takeIs", "[I", true)
  | 72 => ("RedTentModel", "sorted", "[I", true)
  | 73 => ("RedTentModel", "ways", "[I", true)
  | 74 => ("RedTentModel", "bestWays", "[I", true)
  | 75 => ("RedTentModel", "sort", "[I", true)
  | 76 => ("RedTentModel", "many", "[I", true)
  | 77 => ("RedTentModel", "items", "[I", true)
  | _ => ("RedTentModel", "carried", "[I", true)
def tyX12 : Nat → FieldType := fun k => match k with
  | 0 => .int
  | 1 => .int
  | 2 => .array .int
  | 3 => .array .int
  | 4 => .array .int
  | 5 => .int
  | 6 => .array .int
  | 7 => .array .int
  | 8 => .array .int
  | 9 => .int
  | 10 => .array .int
  | 11 => .array .int
  | 12 => .array .int
  | 13 => .array .int
  | 14 => .array .int
  | 15 => .array .int
  | 16 => .int
  | 17 => .array .int
  | 18 => .array .int
  | 19 => .array .long
  | 20 => .array .int
  | 21 => .int
  | 22 => .array .int
  | 23 => .int
  | 24 => .array .int
  | 25 => .array .int
  | 26 => .array .int
  | 27 => .array .int
  | 28 => .array .int
  | 29 => .array .long
  | 30 => .int
  | 31 => .array .int
  | 32 => .array .int
  | 33 => .array .long
  | 34 => .int
  | 35 => .array .long
  | 36 => .int
  | 37 => .array .int
  | 38 => .array .int
  | 39 => .array .int
  | 40 => .array .int
  | 41 => .array .int
  | 42 => .array .int
  | 43 => .array .int
  | 44 => .int
  | 45 => .array .int
  | 46 => .array .int
  | 47 => .array .int
  | 48 => .int
  | 49 => .array .int
  | 50 => .int
  | 51 => .array .int
  | 52 => .int
  | 53 => .array .int
  | 54 => .array .int
  | 55 => .int
  | 56 => .int
  | 57 => .array .long
  | 58 => .long
  | 59 => .array .int
  | 60 => .array .int
  | 61 => .long
  | 62 => .int
  | 63 => .int
  | 64 => .int
  | 65 => .int
  | 66 => .int
  | 67 => .int
  | 68 => .array .int
  | 69 => .int
  | 70 => .int
  | 71 => .array .int
  | 72 => .array .int
  | 73 => .array .int
  | 74 => .array .int
  | 75 => .array .int
  | 76 => .array .int
  | 77 => .array .int
  | _ => .array .int
abbrev wsX120 : List Cond := u_ws RX12 TX12 79
theorem nmX12 : ∀ a, a < 79 → ∀ b, b < 79 → a ≠ b → (TX12 a).2.1 ≠ (TX12 b).2.1 := by decide +kernel
theorem tyX12_ok : ∀ k, k < 79 → parseFieldDescriptor (TX12 k).2.2.1 = some (tyX12 k) := by decide +kernel
abbrev cX12_init : ByteArray := prog_14_method_1_code
def yX12_init : MethodName := ⟨RX12, "<init>", "()V"⟩
abbrev cX12_within : ByteArray := prog_14_method_2_code
def yX12_within : MethodName := ⟨RX12, "within", "(III)Z"⟩
abbrev cX12_isHour : ByteArray := prog_14_method_3_code
def yX12_isHour : MethodName := ⟨RX12, "isHour", "(I)Z"⟩
abbrev cX12_isCell : ByteArray := prog_14_method_4_code
def yX12_isCell : MethodName := ⟨RX12, "isCell", "(I)Z"⟩
abbrev cX12_isBody : ByteArray := prog_14_method_5_code
def yX12_isBody : MethodName := ⟨RX12, "isBody", "(I)Z"⟩
abbrev cX12_isSeeker : ByteArray := prog_14_method_6_code
def yX12_isSeeker : MethodName := ⟨RX12, "isSeeker", "(I)Z"⟩
abbrev cX12_size : ByteArray := prog_14_method_7_code
def yX12_size : MethodName := ⟨RX12, "size", "(I)I"⟩
abbrev cX12_apart : ByteArray := prog_14_method_8_code
def yX12_apart : MethodName := ⟨RX12, "apart", "(II)I"⟩
abbrev cX12_eats : ByteArray := prog_14_method_9_code
def yX12_eats : MethodName := ⟨RX12, "eats", "(I)I"⟩
abbrev cX12_burns : ByteArray := prog_14_method_10_code
def yX12_burns : MethodName := ⟨RX12, "burns", "(I)I"⟩
abbrev cX12_pass : ByteArray := prog_14_method_11_code
def yX12_pass : MethodName := ⟨RX12, "pass", "(I)I"⟩
abbrev cX12_areHours : ByteArray := prog_14_method_12_code
def yX12_areHours : MethodName := ⟨RX12, "areHours", "(II)Z"⟩
abbrev cX12_wind : ByteArray := prog_14_method_13_code
def yX12_wind : MethodName := ⟨RX12, "wind", "(III)I"⟩
abbrev cX12_fog : ByteArray := prog_14_method_14_code
def yX12_fog : MethodName := ⟨RX12, "fog", "(III)I"⟩
abbrev cX12_fogIn : ByteArray := prog_14_method_15_code
def yX12_fogIn : MethodName := ⟨RX12, "fogIn", "(I)I"⟩
abbrev cX12_body : ByteArray := prog_14_method_16_code
def yX12_body : MethodName := ⟨RX12, "body", "(IIIII)I"⟩
abbrev cX12_bodyTold : ByteArray := prog_14_method_17_code
def yX12_bodyTold : MethodName := ⟨RX12, "bodyTold", "(II)I"⟩
abbrev cX12_drifted : ByteArray := prog_14_method_18_code
def yX12_drifted : MethodName := ⟨RX12, "drifted", "(IIJ)J"⟩
abbrev cX12_narrowed : ByteArray := prog_14_method_19_code
def yX12_narrowed : MethodName := ⟨RX12, "narrowed", "(IIIJ)J"⟩
abbrev cX12_patchOf : ByteArray := prog_14_method_20_code
def yX12_patchOf : MethodName := ⟨RX12, "patchOf", "(III)J"⟩
abbrev cX12_patch : ByteArray := prog_14_method_21_code
def yX12_patch : MethodName := ⟨RX12, "patch", "(III)J"⟩
abbrev cX12_addFix : ByteArray := prog_14_method_22_code
def yX12_addFix : MethodName := ⟨RX12, "addFix", "(IIJ)I"⟩
abbrev cX12_fix : ByteArray := prog_14_method_23_code
def yX12_fix : MethodName := ⟨RX12, "fix", "(IIJ)I"⟩
abbrev cX12_hearer : ByteArray := prog_14_method_24_code
def yX12_hearer : MethodName := ⟨RX12, "hearer", "(I)I"⟩
abbrev cX12_isWave : ByteArray := prog_14_method_25_code
def yX12_isWave : MethodName := ⟨RX12, "isWave", "(I)Z"⟩
abbrev cX12_wave : ByteArray := prog_14_method_26_code
def yX12_wave : MethodName := ⟨RX12, "wave", "(IIII)I"⟩
abbrev cX12_call : ByteArray := prog_14_method_27_code
def yX12_call : MethodName := ⟨RX12, "call", "(IIJ)I"⟩
abbrev cX12_isCall : ByteArray := prog_14_method_28_code
def yX12_isCall : MethodName := ⟨RX12, "isCall", "(I)Z"⟩
abbrev cX12_canHear : ByteArray := prog_14_method_29_code
def yX12_canHear : MethodName := ⟨RX12, "canHear", "(II)I"⟩
abbrev cX12_part : ByteArray := prog_14_method_30_code
def yX12_part : MethodName := ⟨RX12, "part", "(IIIJ)I"⟩
abbrev cX12_wordOf : ByteArray := prog_14_method_31_code
def yX12_wordOf : MethodName := ⟨RX12, "wordOf", "(JI)I"⟩
abbrev cX12_word : ByteArray := prog_14_method_32_code
def yX12_word : MethodName := ⟨RX12, "word", "(II)I"⟩
abbrev cX12_isTrue : ByteArray := prog_14_method_33_code
def yX12_isTrue : MethodName := ⟨RX12, "isTrue", "(I)I"⟩
abbrev cX12_lane : ByteArray := prog_14_method_34_code
def yX12_lane : MethodName := ⟨RX12, "lane", "(J)I"⟩
abbrev cX12_flown : ByteArray := prog_14_method_35_code
def yX12_flown : MethodName := ⟨RX12, "flown", "(III)I"⟩
abbrev cX12_weigh : ByteArray := prog_14_method_36_code
def yX12_weigh : MethodName := ⟨RX12, "weigh", "(I)V"⟩
abbrev cX12_divisor : ByteArray := prog_14_method_37_code
def yX12_divisor : MethodName := ⟨RX12, "divisor", "(JJ)J"⟩
abbrev cX12_share : ByteArray := prog_14_method_38_code
def yX12_share : MethodName := ⟨RX12, "share", "(III)J"⟩
abbrev cX12_partFrom : ByteArray := prog_14_method_39_code
def yX12_partFrom : MethodName := ⟨RX12, "partFrom", "(IIIJ)V"⟩
abbrev cX12_countOf : ByteArray := prog_14_method_40_code
def yX12_countOf : MethodName := ⟨RX12, "countOf", "(I)I"⟩
abbrev cX12_parted : ByteArray := prog_14_method_41_code
def yX12_parted : MethodName := ⟨RX12, "parted", "(IIII)I"⟩
abbrev cX12_stays : ByteArray := prog_14_method_42_code
def yX12_stays : MethodName := ⟨RX12, "stays", "(I)I"⟩
abbrev cX12_canFly : ByteArray := prog_14_method_43_code
def yX12_canFly : MethodName := ⟨RX12, "canFly", "(II)Z"⟩
abbrev cX12_comesBack : ByteArray := prog_14_method_44_code
def yX12_comesBack : MethodName := ⟨RX12, "comesBack", "(IIII)I"⟩
abbrev cX12_comes : ByteArray := prog_14_method_45_code
def yX12_comes : MethodName := ⟨RX12, "comes", "(IIII)I"⟩
abbrev cX12_last : ByteArray := prog_14_method_46_code
def yX12_last : MethodName := ⟨RX12, "last", "(III)I"⟩
abbrev cX12_man : ByteArray := prog_14_method_47_code
def yX12_man : MethodName := ⟨RX12, "man", "(IIII)I"⟩
abbrev cX12_feed : ByteArray := prog_14_method_48_code
def yX12_feed : MethodName := ⟨RX12, "feed", "(IJ)I"⟩
abbrev cX12_byteAt : ByteArray := prog_14_method_49_code
def yX12_byteAt : MethodName := ⟨RX12, "byteAt", "(I)I"⟩
abbrev cX12_isLetter : ByteArray := prog_14_method_50_code
def yX12_isLetter : MethodName := ⟨RX12, "isLetter", "(I)Z"⟩
abbrev cX12_isDigit : ByteArray := prog_14_method_51_code
def yX12_isDigit : MethodName := ⟨RX12, "isDigit", "(I)Z"⟩
abbrev cX12_next : ByteArray := prog_14_method_52_code
def yX12_next : MethodName := ⟨RX12, "next", "()V"⟩
abbrev cX12_is : ByteArray := prog_14_method_53_code
def yX12_is : MethodName := ⟨RX12, "is", "(Ljava/lang/String;)Z"⟩
abbrev cX12_take : ByteArray := prog_14_method_54_code
def yX12_take : MethodName := ⟨RX12, "take", "(Ljava/lang/String;)Z"⟩
abbrev cX12_wrong : ByteArray := prog_14_method_55_code
def yX12_wrong : MethodName := ⟨RX12, "wrong", "()I"⟩
abbrev cX12_either : ByteArray := prog_14_method_56_code
def yX12_either : MethodName := ⟨RX12, "either", "()I"⟩
abbrev cX12_both : ByteArray := prog_14_method_57_code
def yX12_both : MethodName := ⟨RX12, "both", "()I"⟩
abbrev cX12_opens : ByteArray := prog_14_method_58_code
def yX12_opens : MethodName := ⟨RX12, "opens", "()Z"⟩
abbrev cX12_turned : ByteArray := prog_14_method_59_code
def yX12_turned : MethodName := ⟨RX12, "turned", "()I"⟩
abbrev cX12_sum : ByteArray := prog_14_method_60_code
def yX12_sum : MethodName := ⟨RX12, "sum", "()I"⟩
abbrev cX12_product : ByteArray := prog_14_method_61_code
def yX12_product : MethodName := ⟨RX12, "product", "()I"⟩
abbrev cX12_one : ByteArray := prog_14_method_62_code
def yX12_one : MethodName := ⟨RX12, "one", "()I"⟩
abbrev cX12_goThrough : ByteArray := prog_14_method_63_code
def yX12_goThrough : MethodName := ⟨RX12, "goThrough", "(II)I"⟩
abbrev cX12_text : ByteArray := prog_14_method_64_code
def yX12_text : MethodName := ⟨RX12, "text", "()I"⟩
abbrev cX12_force : ByteArray := prog_14_method_65_code
def yX12_force : MethodName := ⟨RX12, "force", "(I)I"⟩
abbrev cX12_takeOf : ByteArray := prog_14_method_66_code
def yX12_takeOf : MethodName := ⟨RX12, "takeOf", "(I)I"⟩
abbrev cX12_goOf : ByteArray := prog_14_method_67_code
def yX12_goOf : MethodName := ⟨RX12, "goOf", "(II)I"⟩
abbrev cX12_says : ByteArray := prog_14_method_68_code
def yX12_says : MethodName := ⟨RX12, "says", "(III)J"⟩
abbrev cX12_first : ByteArray := prog_14_method_69_code
def yX12_first : MethodName := ⟨RX12, "first", "(II)I"⟩
abbrev cX12_story : ByteArray := prog_14_method_70_code
def yX12_story : MethodName := ⟨RX12, "story", "(III)I"⟩
abbrev cX12_unfit : ByteArray := prog_14_method_71_code
def yX12_unfit : MethodName := ⟨RX12, "unfit", "()I"⟩
abbrev cX12_isStory : ByteArray := prog_14_method_72_code
def yX12_isStory : MethodName := ⟨RX12, "isStory", "(I)Z"⟩
abbrev cX12_clash : ByteArray := prog_14_method_73_code
def yX12_clash : MethodName := ⟨RX12, "clash", "(II)I"⟩
abbrev cX12_row : ByteArray := prog_14_method_74_code
def yX12_row : MethodName := ⟨RX12, "row", "(J)I"⟩
abbrev cX12_goesIn : ByteArray := prog_14_method_75_code
def yX12_goesIn : MethodName := ⟨RX12, "goesIn", "(III)I"⟩
abbrev cX12_days : ByteArray := prog_14_method_76_code
def yX12_days : MethodName := ⟨RX12, "days", "(III)I"⟩
abbrev cX12_count : ByteArray := prog_14_method_77_code
def yX12_count : MethodName := ⟨RX12, "count", "(I)I"⟩
abbrev cX12_isSheet : ByteArray := prog_14_method_78_code
def yX12_isSheet : MethodName := ⟨RX12, "isSheet", "(I)Z"⟩
abbrev cX12_sheet : ByteArray := prog_14_method_79_code
def yX12_sheet : MethodName := ⟨RX12, "sheet", "(III)I"⟩
abbrev cX12_isItem : ByteArray := prog_14_method_80_code
def yX12_isItem : MethodName := ⟨RX12, "isItem", "(IJ)Z"⟩
abbrev cX12_cell : ByteArray := prog_14_method_81_code
def yX12_cell : MethodName := ⟨RX12, "cell", "(III)I"⟩
abbrev cX12_copy : ByteArray := prog_14_method_82_code
def yX12_copy : MethodName := ⟨RX12, "copy", "(IIIII)I"⟩
abbrev cX12_fixes : ByteArray := prog_14_method_83_code
def yX12_fixes : MethodName := ⟨RX12, "fixes", "(IIIII)I"⟩
abbrev cX12_above : ByteArray := prog_14_method_84_code
def yX12_above : MethodName := ⟨RX12, "above", "(I)I"⟩
abbrev cX12_taken : ByteArray := prog_14_method_85_code
def yX12_taken : MethodName := ⟨RX12, "taken", "(II)I"⟩
def RJ6 : String := "java/lang/Integer"
def TJ6 : u_T := fun k => match k with
  | _ => ("", "", "", false)
def tyJ6 : Nat → FieldType := fun k => match k with
  | _ => .int
abbrev wsJ60 : List Cond := u_ws RJ6 TJ6 0
theorem nmJ6 : ∀ a, a < 0 → ∀ b, b < 0 → a ≠ b → (TJ6 a).2.1 ≠ (TJ6 b).2.1 := by decide +kernel
theorem tyJ6_ok : ∀ k, k < 0 → parseFieldDescriptor (TJ6 k).2.2.1 = some (tyJ6 k) := by decide +kernel
abbrev cJ6_bitCount_0f7a4 : ByteArray := prog_15_method_49_code
def yJ6_bitCount_0f7a4 : MethodName := ⟨RJ6, "bitCount", "(I)I"⟩
def RJ9 : String := "java/lang/Math"
def TJ9 : u_T := fun k => match k with
  | _ => ("", "", "", false)
def tyJ9 : Nat → FieldType := fun k => match k with
  | _ => .int
abbrev wsJ90 : List Cond := u_ws RJ9 TJ9 0
theorem nmJ9 : ∀ a, a < 0 → ∀ b, b < 0 → a ≠ b → (TJ9 a).2.1 ≠ (TJ9 b).2.1 := by decide +kernel
theorem tyJ9_ok : ∀ k, k < 0 → parseFieldDescriptor (TJ9 k).2.2.1 = some (tyJ9 k) := by decide +kernel
abbrev cJ9_abs_0f7a4 : ByteArray := prog_16_method_59_code
def yJ9_abs_0f7a4 : MethodName := ⟨RJ9, "abs", "(I)I"⟩
abbrev cJ9_max_7cf53 : ByteArray := prog_16_method_65_code
def yJ9_max_7cf53 : MethodName := ⟨RJ9, "max", "(II)I"⟩
abbrev cJ9_min_7cf53 : ByteArray := prog_16_method_69_code
def yJ9_min_7cf53 : MethodName := ⟨RJ9, "min", "(II)I"⟩
def RJ0 : String := "java/lang/String"
def TJ0 : u_T := fun k => match k with
  | _ => ("", "", "", false)
def tyJ0 : Nat → FieldType := fun k => match k with
  | _ => .int
abbrev wsJ00 : List Cond := u_ws RJ0 TJ0 0
theorem nmJ0 : ∀ a, a < 0 → ∀ b, b < 0 → a ≠ b → (TJ0 a).2.1 ≠ (TJ0 b).2.1 := by decide +kernel
theorem tyJ0_ok : ∀ k, k < 0 → parseFieldDescriptor (TJ0 k).2.2.1 = some (tyJ0 k) := by decide +kernel
abbrev cJ0_length_8abf5 : ByteArray := prog_17_method_54_code
def yJ0_length_8abf5 : MethodName := ⟨RJ0, "length", "()I"⟩
abbrev cJ0_charAt_5068e : ByteArray := prog_17_method_56_code
def yJ0_charAt_5068e : MethodName := ⟨RJ0, "charAt", "(I)C"⟩
abbrev cJ0_coder_7d493 : ByteArray := prog_17_method_152_code
def yJ0_coder_7d493 : MethodName := ⟨RJ0, "coder", "()B"⟩
abbrev cJ0_isLatin1_aae02 : ByteArray := prog_17_method_154_code
def yJ0_isLatin1_aae02 : MethodName := ⟨RJ0, "isLatin1", "()Z"⟩
abbrev cJ0_checkIndex_df160 : ByteArray := prog_17_method_155_code
def yJ0_checkIndex_df160 : MethodName := ⟨RJ0, "checkIndex", "(II)V"⟩
def RJ1 : String := "java/lang/StringLatin1"
def TJ1 : u_T := fun k => match k with
  | _ => ("", "", "", false)
def tyJ1 : Nat → FieldType := fun k => match k with
  | _ => .int
abbrev wsJ10 : List Cond := u_ws RJ1 TJ1 0
theorem nmJ1 : ∀ a, a < 0 → ∀ b, b < 0 → a ≠ b → (TJ1 a).2.1 ≠ (TJ1 b).2.1 := by decide +kernel
theorem tyJ1_ok : ∀ k, k < 0 → parseFieldDescriptor (TJ1 k).2.2.1 = some (tyJ1 k) := by decide +kernel
abbrev cJ1_charAt_3b067 : ByteArray := prog_18_method_2_code
def yJ1_charAt_3b067 : MethodName := ⟨RJ1, "charAt", "([BI)C"⟩
def RJ2 : String := "java/lang/StringUTF16"
def TJ2 : u_T := fun k => match k with
  | _ => ("", "", "", false)
def tyJ2 : Nat → FieldType := fun k => match k with
  | _ => .int
abbrev wsJ20 : List Cond := u_ws RJ2 TJ2 0
theorem nmJ2 : ∀ a, a < 0 → ∀ b, b < 0 → a ≠ b → (TJ2 a).2.1 ≠ (TJ2 b).2.1 := by decide +kernel
theorem tyJ2_ok : ∀ k, k < 0 → parseFieldDescriptor (TJ2 k).2.2.1 = some (tyJ2 k) := by decide +kernel
abbrev cJ2_getChar_3b067 : ByteArray := prog_19_method_5_code
def yJ2_getChar_3b067 : MethodName := ⟨RJ2, "getChar", "([BI)C"⟩
abbrev cJ2_length_9d52b : ByteArray := prog_19_method_6_code
def yJ2_length_9d52b : MethodName := ⟨RJ2, "length", "([B)I"⟩
abbrev cJ2_charAt_3b067 : ByteArray := prog_19_method_83_code
def yJ2_charAt_3b067 : MethodName := ⟨RJ2, "charAt", "([BI)C"⟩
abbrev cJ2_checkIndex_2214a : ByteArray := prog_19_method_91_code
def yJ2_checkIndex_2214a : MethodName := ⟨RJ2, "checkIndex", "(I[B)V"⟩
def RJ10 : String := "java/lang/System"
def TJ10 : u_T := fun k => match k with
  | _ => ("", "", "", false)
def tyJ10 : Nat → FieldType := fun k => match k with
  | _ => .int
abbrev wsJ100 : List Cond := u_ws RJ10 TJ10 0
theorem nmJ10 : ∀ a, a < 0 → ∀ b, b < 0 → a ≠ b → (TJ10 a).2.1 ≠ (TJ10 b).2.1 := by decide +kernel
theorem tyJ10_ok : ∀ k, k < 0 → parseFieldDescriptor (TJ10 k).2.2.1 = some (tyJ10 k) := by decide +kernel
def RJ3 : String := "jdk/internal/util/Preconditions"
def TJ3 : u_T := fun k => match k with
  | _ => ("", "", "", false)
def tyJ3 : Nat → FieldType := fun k => match k with
  | _ => .int
abbrev wsJ30 : List Cond := u_ws RJ3 TJ3 0
theorem nmJ3 : ∀ a, a < 0 → ∀ b, b < 0 → a ≠ b → (TJ3 a).2.1 ≠ (TJ3 b).2.1 := by decide +kernel
theorem tyJ3_ok : ∀ k, k < 0 → parseFieldDescriptor (TJ3 k).2.2.1 = some (tyJ3 k) := by decide +kernel
abbrev cJ3_checkIndex_8e157 : ByteArray := prog_21_method_11_code
def yJ3_checkIndex_8e157 : MethodName := ⟨RJ3, "checkIndex", "(IILjava/util/function/BiFunction;)I"⟩
def RL : String := "RedTentLaw"
abbrev cL_law : ByteArray := code
def yL_law : MethodName := ⟨RL, "law", "([I)Z"⟩
def wsX0_init : List Cond := .code yX0_init cX0_init 7 none :: ru_T
def wsX0_eats : List Cond := .code yX0_eats cX0_eats 1 (some .int) :: ru_T
def wsX0_burns : List Cond := .code yX0_burns cX0_burns 1 (some .int) :: ru_T
def wsX0_eatFor : List Cond := .code yX0_eatFor cX0_eatFor 2 none :: ru_T
def wsX0_foodLasts : List Cond := .code yX0_foodLasts cX0_foodLasts 3 (some .int) :: ru_T
def wsX0_isUnder : List Cond := .code yX0_isUnder cX0_isUnder 4 (some .boolean) :: ru_T
def wsX11_byColumns : List Cond := .code yX11_byColumns cX11_byColumns 5 (some .long) :: ru_T
def wsX11_byRows : List Cond := .code yX11_byRows cX11_byRows 3 (some .long) :: ru_T
def wsX10_blow : List Cond := .code yX10_blow cX10_blow 11 (some .long) :: ru_T
def wsX0_driftIn : List Cond := .code yX0_driftIn cX0_driftIn 6 (some .long) :: ru_T
def wsX0_forgetBehind : List Cond := .code yX0_forgetBehind cX0_forgetBehind 2 none :: ru_T
def wsX0_narrowBy : List Cond := .code yX0_narrowBy cX0_narrowBy 5 none :: ru_T
def wsX0_addFlown : List Cond := .code yX0_addFlown cX0_addFlown 3 (some .int) :: ru_T
def wsX0_narrowed : List Cond := .code yX0_narrowed cX0_narrowed 8 (some .long) :: ru_T
def wsX0_placesNow : List Cond := .code yX0_placesNow cX0_placesNow 6 (some .long) :: ru_T
def wsX0_placesKnown : List Cond := .code yX0_placesKnown cX0_placesKnown 8 (some .long) :: ru_T
def wsX1_init : List Cond := .code yX1_init cX1_init 1 none :: ru_T
def wsX1_addRow : List Cond := .code yX1_addRow cX1_addRow 6 (some .int) :: ru_T
def wsX1_wayOn : List Cond := .code yX1_wayOn cX1_wayOn 4 (some .int) :: ru_T
def wsX1_cellsThrough : List Cond := .code yX1_cellsThrough cX1_cellsThrough 9 (some .int) :: ru_T
def wsX1_leastCells : List Cond := .code yX1_leastCells cX1_leastCells 6 (some .int) :: ru_T
def wsX1_plan : List Cond := .code yX1_plan cX1_plan 5 none :: ru_T
def wsX2_init : List Cond := .code yX2_init cX2_init 1 none :: ru_T
def wsX2_addMan : List Cond := .code yX2_addMan cX2_addMan 5 (some .int) :: ru_T
def wsX2_aheadOf : List Cond := .code yX2_aheadOf cX2_aheadOf 5 (some .int) :: ru_T
def wsX2_inTurn : List Cond := .code yX2_inTurn cX2_inTurn 4 (some .int) :: ru_T
def wsX9_init : List Cond := .code yX9_init cX9_init 1 none :: ru_T
def wsX5_init : List Cond := .code yX5_init cX5_init 1 none :: ru_T
def wsX9_clear : List Cond := .code yX9_clear cX9_clear 1 none :: ru_T
def wsX9_addStep : List Cond := .code yX9_addStep cX9_addStep 2 none :: ru_T
def wsX9_beFirst : List Cond := .code yX9_beFirst cX9_beFirst 2 none :: ru_T
def wsX3_init : List Cond := .code yX3_init cX3_init 2 none :: ru_T
def wsX3_addBytes : List Cond := .code yX3_addBytes cX3_addBytes 5 (some .int) :: ru_T
def wsX5_isBlank : List Cond := .code yX5_isBlank cX5_isBlank 1 (some .boolean) :: ru_T
def wsX5_isLetter : List Cond := .code yX5_isLetter cX5_isLetter 1 (some .boolean) :: ru_T
def wsX5_nthWord : List Cond := .code yX5_nthWord cX5_nthWord 1 (some (.object "java/lang/String")) :: ru_T
def wsJ0_coder_7d493 : List Cond := .code yJ0_coder_7d493 cJ0_coder_7d493 1 (some .byte) :: ([.fieldLink RJ0 38 "java/lang/String" "COMPACT_STRINGS" "Z", .fieldLink RJ0 15 "java/lang/String" "coder" "B"])
def wsJ0_length_8abf5 : List Cond := .code yJ0_length_8abf5 cJ0_length_8abf5 1 (some .int) :: ([.fieldLink RJ0 9 "java/lang/String" "value" "[B", .methodLink RJ0 335 yJ0_coder_7d493, .instanceMethod yJ0_coder_7d493, .selects RJ0 yJ0_coder_7d493 yJ0_coder_7d493, .initialized RJ0, .code yJ0_coder_7d493 cJ0_coder_7d493 1 (some .byte), .fieldLink RJ0 38 "java/lang/String" "COMPACT_STRINGS" "Z", .fieldLink RJ0 15 "java/lang/String" "coder" "B"])
def wsJ0_isLatin1_aae02 : List Cond := .code yJ0_isLatin1_aae02 cJ0_isLatin1_aae02 1 (some .boolean) :: ([.fieldLink RJ0 38 "java/lang/String" "COMPACT_STRINGS" "Z", .fieldLink RJ0 15 "java/lang/String" "coder" "B"])
def wsJ3_checkIndex_8e157 : List Cond := .code yJ3_checkIndex_8e157 cJ3_checkIndex_8e157 3 (some .int) :: ([])
def wsJ0_checkIndex_df160 : List Cond := .code yJ0_checkIndex_df160 cJ0_checkIndex_df160 2 none :: ([.fieldLink RJ0 1053 "jdk/internal/util/Preconditions" "SIOOBE_FORMATTER" "Ljava/util/function/BiFunction;", .methodLink RJ0 1059 yJ3_checkIndex_8e157, .static yJ3_checkIndex_8e157, .initialized RJ3, .code yJ3_checkIndex_8e157 cJ3_checkIndex_8e157 3 (some .int)])
def wsJ1_charAt_3b067 : List Cond := .code yJ1_charAt_3b067 cJ1_charAt_3b067 2 (some .char) :: ([.methodLink RJ1 9 yJ0_checkIndex_df160, .static yJ0_checkIndex_df160, .initialized RJ0, .code yJ0_checkIndex_df160 cJ0_checkIndex_df160 2 none, .fieldLink RJ0 1053 "jdk/internal/util/Preconditions" "SIOOBE_FORMATTER" "Ljava/util/function/BiFunction;", .methodLink RJ0 1059 yJ3_checkIndex_8e157, .static yJ3_checkIndex_8e157, .initialized RJ3, .code yJ3_checkIndex_8e157 cJ3_checkIndex_8e157 3 (some .int)])
def wsJ2_length_9d52b : List Cond := .code yJ2_length_9d52b cJ2_length_9d52b 1 (some .int) :: ([])
def wsJ2_checkIndex_2214a : List Cond := .code yJ2_checkIndex_2214a cJ2_checkIndex_2214a 2 none :: ([.methodLink RJ2 48 yJ2_length_9d52b, .static yJ2_length_9d52b, .initialized RJ2, .code yJ2_length_9d52b cJ2_length_9d52b 1 (some .int), .methodLink RJ2 414 yJ0_checkIndex_df160, .static yJ0_checkIndex_df160, .initialized RJ0, .code yJ0_checkIndex_df160 cJ0_checkIndex_df160 2 none, .fieldLink RJ0 1053 "jdk/internal/util/Preconditions" "SIOOBE_FORMATTER" "Ljava/util/function/BiFunction;", .methodLink RJ0 1059 yJ3_checkIndex_8e157, .static yJ3_checkIndex_8e157, .initialized RJ3, .code yJ3_checkIndex_8e157 cJ3_checkIndex_8e157 3 (some .int)])
def wsJ2_getChar_3b067 : List Cond := .code yJ2_getChar_3b067 cJ2_getChar_3b067 2 (some .char) :: ([.fieldLink RJ2 44 "java/lang/StringUTF16" "$assertionsDisabled" "Z", .fieldLink RJ2 59 "java/lang/StringUTF16" "HI_BYTE_SHIFT" "I", .fieldLink RJ2 63 "java/lang/StringUTF16" "LO_BYTE_SHIFT" "I", .methodLink RJ2 48 yJ2_length_9d52b, .static yJ2_length_9d52b, .initialized RJ2, .code yJ2_length_9d52b cJ2_length_9d52b 1 (some .int)])
def wsJ2_charAt_3b067 : List Cond := .code yJ2_charAt_3b067 cJ2_charAt_3b067 2 (some .char) :: ([.methodLink RJ2 67 yJ2_checkIndex_2214a, .static yJ2_checkIndex_2214a, .initialized RJ2, .code yJ2_checkIndex_2214a cJ2_checkIndex_2214a 2 none, .methodLink RJ2 48 yJ2_length_9d52b, .static yJ2_length_9d52b, .code yJ2_length_9d52b cJ2_length_9d52b 1 (some .int), .methodLink RJ2 414 yJ0_checkIndex_df160, .static yJ0_checkIndex_df160, .initialized RJ0, .code yJ0_checkIndex_df160 cJ0_checkIndex_df160 2 none, .fieldLink RJ0 1053 "jdk/internal/util/Preconditions" "SIOOBE_FORMATTER" "Ljava/util/function/BiFunction;", .methodLink RJ0 1059 yJ3_checkIndex_8e157, .static yJ3_checkIndex_8e157, .initialized RJ3, .code yJ3_checkIndex_8e157 cJ3_checkIndex_8e157 3 (some .int), .methodLink RJ2 71 yJ2_getChar_3b067, .static yJ2_getChar_3b067, .code yJ2_getChar_3b067 cJ2_getChar_3b067 2 (some .char), .fieldLink RJ2 44 "java/lang/StringUTF16" "$assertionsDisabled" "Z", .fieldLink RJ2 59 "java/lang/StringUTF16" "HI_BYTE_SHIFT" "I", .fieldLink RJ2 63 "java/lang/StringUTF16" "LO_BYTE_SHIFT" "I"])
def wsJ0_charAt_5068e_r1 : List Cond := [Cond.fieldLink RJ0 9 "java/lang/String" "value" "[B", Cond.methodLink RJ0 492 yJ0_isLatin1_aae02, Cond.instanceMethod yJ0_isLatin1_aae02, Cond.selects RJ0 yJ0_isLatin1_aae02 yJ0_isLatin1_aae02, Cond.initialized RJ0, Cond.code yJ0_isLatin1_aae02 cJ0_isLatin1_aae02 1 (some .boolean), Cond.fieldLink RJ0 38 "java/lang/String" "COMPACT_STRINGS" "Z", Cond.fieldLink RJ0 15 "java/lang/String" "coder" "B", Cond.methodLink RJ0 495 yJ1_charAt_3b067, Cond.static yJ1_charAt_3b067, Cond.initialized RJ1, Cond.code yJ1_charAt_3b067 cJ1_charAt_3b067 2 (some .char), Cond.methodLink RJ1 9 yJ0_checkIndex_df160, Cond.static yJ0_checkIndex_df160, Cond.code yJ0_checkIndex_df160 cJ0_checkIndex_df160 2 none, Cond.fieldLink RJ0 1053 "jdk/internal/util/Preconditions" "SIOOBE_FORMATTER" "Ljava/util/function/BiFunction;", Cond.methodLink RJ0 1059 yJ3_checkIndex_8e157, Cond.static yJ3_checkIndex_8e157, Cond.initialized RJ3, Cond.code yJ3_checkIndex_8e157 cJ3_checkIndex_8e157 3 (some .int), Cond.methodLink RJ0 498 yJ2_charAt_3b067, Cond.static yJ2_charAt_3b067, Cond.initialized RJ2, Cond.code yJ2_charAt_3b067 cJ2_charAt_3b067 2 (some .char)]
def wsJ0_charAt_5068e_r2 : List Cond := [Cond.methodLink RJ2 67 yJ2_checkIndex_2214a, Cond.static yJ2_checkIndex_2214a, Cond.code yJ2_checkIndex_2214a cJ2_checkIndex_2214a 2 none, Cond.methodLink RJ2 48 yJ2_length_9d52b, Cond.static yJ2_length_9d52b, Cond.code yJ2_length_9d52b cJ2_length_9d52b 1 (some .int), Cond.methodLink RJ2 414 yJ0_checkIndex_df160, Cond.methodLink RJ2 71 yJ2_getChar_3b067, Cond.static yJ2_getChar_3b067, Cond.code yJ2_getChar_3b067 cJ2_getChar_3b067 2 (some .char), Cond.fieldLink RJ2 44 "java/lang/StringUTF16" "$assertionsDisabled" "Z", Cond.fieldLink RJ2 59 "java/lang/StringUTF16" "HI_BYTE_SHIFT" "I", Cond.fieldLink RJ2 63 "java/lang/StringUTF16" "LO_BYTE_SHIFT" "I"]
def wsJ0_charAt_5068e : List Cond := .code yJ0_charAt_5068e cJ0_charAt_5068e 2 (some .char) :: ((wsJ0_charAt_5068e_r1 ++ wsJ0_charAt_5068e_r2))
def wsX5_isSpelt : List Cond := .code yX5_isSpelt cX5_isSpelt 5 (some .boolean) :: ru_T
def wsX5_wordOf : List Cond := .code yX5_wordOf cX5_wordOf 4 (some .int) :: ru_T
def wsX5_isDigit : List Cond := .code yX5_isDigit cX5_isDigit 1 (some .boolean) :: ru_T
def wsX5_isSign : List Cond := .code yX5_isSign cX5_isSign 1 (some .boolean) :: ru_T
def wsX5_cutOne : List Cond := .code yX5_cutOne cX5_cutOne 5 (some .int) :: ru_T
def wsX5_cutTokens : List Cond := .code yX5_cutTokens cX5_cutTokens 3 none :: ru_T
def wsX5_sees : List Cond := .code yX5_sees cX5_sees 2 (some .boolean) :: ru_T
def wsX5_advance : List Cond := .code yX5_advance cX5_advance 1 none :: ru_T
def wsX5_fail : List Cond := .code yX5_fail cX5_fail 1 none :: ru_T
def wsX5_need : List Cond := .code yX5_need cX5_need 2 none :: ru_T
def wsX5_readBoth : List Cond := .code yX5_readBoth cX5_readBoth 3 none :: ru_T
def wsX5_readChoice : List Cond := .code yX5_readChoice cX5_readChoice 3 none :: ru_T
def wsX5_readCompared : List Cond := .code yX5_readCompared cX5_readCompared 3 none :: ru_T
def wsX5_readNot : List Cond := .code yX5_readNot cX5_readNot 2 none :: ru_T
def wsX5_readOne : List Cond := .code yX5_readOne cX5_readOne 2 none :: ru_T
def wsX5_readSum : List Cond := .code yX5_readSum cX5_readSum 4 none :: ru_T
def wsX5_readTerm : List Cond := .code yX5_readTerm cX5_readTerm 3 none :: ru_T
def wsX5_readAll : List Cond := .code yX5_readAll cX5_readAll 3 (some .int) :: ru_T
def wsX9_become : List Cond := .code yX9_become cX9_become 2 none :: ru_T
def wsX3_readTape : List Cond := .code yX3_readTape cX3_readTape 2 (some .int) :: ru_T
def wsX9_put : List Cond := .code yX9_put cX9_put 3 (some .int) :: ru_T
def wsX9_truth : List Cond := .code yX9_truth cX9_truth 1 (some .int) :: ru_T
def wsX9_joined : List Cond := .code yX9_joined cX9_joined 3 (some .int) :: ru_T
def wsX9_afterStep : List Cond := .code yX9_afterStep cX9_afterStep 4 (some .int) :: ru_T
def wsX9_valueOf : List Cond := .code yX9_valueOf cX9_valueOf 8 (some .int) :: ru_T
def wsX3_ask : List Cond := .code yX3_ask cX3_ask 8 (some .int) :: ru_T
def wsX4_init : List Cond := .code yX4_init cX4_init 1 none :: ru_T
def wsX4_addHearer : List Cond := .code yX4_addHearer cX4_addHearer 2 (some .int) :: ru_T
def wsX4_setWave : List Cond := .code yX4_setWave cX4_setWave 5 (some .int) :: ru_T
def wsX4_hasCall : List Cond := .code yX4_hasCall cX4_hasCall 2 (some .boolean) :: ru_T
def wsX4_addCall : List Cond := .code yX4_addCall cX4_addCall 6 (some .int) :: ru_T
def wsX4_addPart : List Cond := .code yX4_addPart cX4_addPart 5 (some .int) :: ru_T
def wsX11_apart : List Cond := .code yX11_apart cX11_apart 4 (some .int) :: ru_T
def wsX11_has : List Cond := .code yX11_has cX11_has 3 (some .boolean) :: ru_T
def wsX4_isAnyApart : List Cond := .code yX4_isAnyApart cX4_isAnyApart 7 (some .boolean) :: ru_T
def wsX4_hearersOf : List Cond := .code yX4_hearersOf cX4_hearersOf 8 (some .int) :: ru_T
def wsX4_digit : List Cond := .code yX4_digit cX4_digit 3 (some .int) :: ru_T
def wsX4_putTogether : List Cond := .code yX4_putTogether cX4_putTogether 6 (some .int) :: ru_T
def wsX4_isAsSent : List Cond := .code yX4_isAsSent cX4_isAsSent 5 (some .boolean) :: ru_T
def wsX6_init : List Cond := .code yX6_init cX6_init 1 none :: ru_T
def wsX6_addLane : List Cond := .code yX6_addLane cX6_addLane 3 (some .int) :: ru_T
def wsX10_fogAt : List Cond := .code yX10_fogAt cX10_fogAt 2 (some .int) :: ru_T
def wsX6_weightIn : List Cond := .code yX6_weightIn cX6_weightIn 8 (some .long) :: ru_T
def wsX6_weigh : List Cond := .code yX6_weigh cX6_weigh 6 none :: ru_T
def wsX6_commonDivisor : List Cond := .code yX6_commonDivisor cX6_commonDivisor 11 (some .long) :: ru_T
def wsX6_shareOf : List Cond := .code yX6_shareOf cX6_shareOf 5 (some .long) :: ru_T
def wsX6_thousandths : List Cond := .code yX6_thousandths cX6_thousandths 1 (some .int) :: ru_T
def wsX6_keepIfBetter : List Cond := .code yX6_keepIfBetter cX6_keepIfBetter 6 none :: ru_T
def wsX6_tryLanes : List Cond := .code yX6_tryLanes cX6_tryLanes 8 none :: ru_T
def wsX6_choose : List Cond := .code yX6_choose cX6_choose 3 none :: ru_T
def wsX7_init : List Cond := .code yX7_init cX7_init 1 none :: ru_T
def wsX7_become : List Cond := .code yX7_become cX7_become 4 none :: ru_T
def wsX7_hasItem : List Cond := .code yX7_hasItem cX7_hasItem 2 (some .boolean) :: ru_T
def wsX7_hasStretch : List Cond := .code yX7_hasStretch cX7_hasStretch 3 (some .boolean) :: ru_T
def wsX7_put : List Cond := .code yX7_put cX7_put 3 none :: ru_T
def wsX8_init : List Cond := .code yX8_init cX8_init 1 none :: ru_T
def wsX8_hasStory : List Cond := .code yX8_hasStory cX8_hasStory 2 (some .boolean) :: ru_T
def wsX8_addStory : List Cond := .code yX8_addStory cX8_addStory 4 (some .int) :: ru_T
def wsX10_init : List Cond := .code yX10_init cX10_init 2 none :: ru_T
def wsX10_setHours : List Cond := .code yX10_setHours cX10_setHours 5 none :: ru_T
def wsX10_tellWind : List Cond := .code yX10_tellWind cX10_tellWind 4 none :: ru_T
def wsX10_tellFog : List Cond := .code yX10_tellFog cX10_tellFog 4 none :: ru_T
def wsX10_isClear : List Cond := .code yX10_isClear cX10_isClear 4 (some .boolean) :: ru_T
def wsX11_init : List Cond := .code yX11_init cX11_init 2 none :: ru_T
def wsX11_bodyAt : List Cond := .code yX11_bodyAt cX11_bodyAt 2 (some (.object "RedTent$Body")) :: ru_T
def wsX11_pass : List Cond := .code yX11_pass cX11_pass 4 (some .int) :: ru_T
def wsX11_isSpan : List Cond := .code yX11_isSpan cX11_isSpan 2 (some .boolean) :: ru_T
def wsX11_isWind : List Cond := .code yX11_isWind cX11_isWind 5 (some .boolean) :: ru_T
def wsX11_wind : List Cond := .code yX11_wind cX11_wind 6 (some .int) :: ru_T
def wsX11_fog : List Cond := .code yX11_fog cX11_fog 4 (some .int) :: ru_T
def wsX11_isCell : List Cond := .code yX11_isCell cX11_isCell 1 (some .boolean) :: ru_T
def wsX11_body : List Cond := .code yX11_body cX11_body 6 (some .int) :: ru_T
def wsX11_bodyTold : List Cond := .code yX11_bodyTold cX11_bodyTold 4 (some .int) :: ru_T
def wsX11_isPast : List Cond := .code yX11_isPast cX11_isPast 2 (some .boolean) :: ru_T
def wsX11_patch : List Cond := .code yX11_patch cX11_patch 5 (some .long) :: ru_T
def wsX11_fix : List Cond := .code yX11_fix cX11_fix 6 (some .int) :: ru_T
def wsX11_hearer : List Cond := .code yX11_hearer cX11_hearer 2 (some .int) :: ru_T
def wsX11_wave : List Cond := .code yX11_wave cX11_wave 5 (some .int) :: ru_T
def wsX11_call : List Cond := .code yX11_call cX11_call 5 (some .int) :: ru_T
def wsX11_canHear : List Cond := .code yX11_canHear cX11_canHear 4 (some .int) :: ru_T
def wsX11_part : List Cond := .code yX11_part cX11_part 6 (some .int) :: ru_T
def wsX11_word : List Cond := .code yX11_word cX11_word 3 (some .int) :: ru_T
def wsX11_isTrue : List Cond := .code yX11_isTrue cX11_isTrue 2 (some .int) :: ru_T
def wsX11_lane : List Cond := .code yX11_lane cX11_lane 3 (some .int) :: ru_T
def wsX11_seekerAt : List Cond := .code yX11_seekerAt cX11_seekerAt 3 (some (.object "RedTent$Body")) :: ru_T
def wsX11_flown : List Cond := .code yX11_flown cX11_flown 5 (some .int) :: ru_T
def wsX11_share : List Cond := .code yX11_share cX11_share 5 (some .long) :: ru_T
def wsJ6_bitCount_0f7a4 : List Cond := .code yJ6_bitCount_0f7a4 cJ6_bitCount_0f7a4 1 (some .int) :: ([.constant RJ6 265 (1431655765), .constant RJ6 266 (858993459), .constant RJ6 267 (252645135)])
def wsX11_areSeekers : List Cond := .code yX11_areSeekers cX11_areSeekers 3 (some .boolean) :: ru_T
def wsX11_parted : List Cond := .code yX11_parted cX11_parted 7 (some .int) :: ru_T
def wsX11_stays : List Cond := .code yX11_stays cX11_stays 3 (some .int) :: ru_T
def wsX11_backFrom : List Cond := .code yX11_backFrom cX11_backFrom 6 (some .int) :: ru_T
def wsX11_comes : List Cond := .code yX11_comes cX11_comes 6 (some .int) :: ru_T
def wsX11_last : List Cond := .code yX11_last cX11_last 7 (some .int) :: ru_T
def wsX11_isMark : List Cond := .code yX11_isMark cX11_isMark 1 (some .boolean) :: ru_T
def wsX11_man : List Cond := .code yX11_man cX11_man 5 (some .int) :: ru_T
def wsX11_feed : List Cond := .code yX11_feed cX11_feed 4 (some .int) :: ru_T
def wsX11_text : List Cond := .code yX11_text cX11_text 1 (some .int) :: ru_T
def wsX11_force : List Cond := .code yX11_force cX11_force 3 (some .int) :: ru_T
def wsX11_takeOf : List Cond := .code yX11_takeOf cX11_takeOf 4 (some .int) :: ru_T
def wsX11_nearest : List Cond := .code yX11_nearest cX11_nearest 5 (some .int) :: ru_T
def wsX11_says : List Cond := .code yX11_says cX11_says 7 (some .long) :: ru_T
def wsX11_first : List Cond := .code yX11_first cX11_first 4 (some .int) :: ru_T
def wsX11_story : List Cond := .code yX11_story cX11_story 5 (some .int) :: ru_T
def wsX11_unfit : List Cond := .code yX11_unfit cX11_unfit 4 (some .int) :: ru_T
def wsX11_clash : List Cond := .code yX11_clash cX11_clash 9 (some .int) :: ru_T
def wsX11_row : List Cond := .code yX11_row cX11_row 3 (some .int) :: ru_T
def wsX11_days : List Cond := .code yX11_days cX11_days 4 (some .int) :: ru_T
def wsX11_count : List Cond := .code yX11_count cX11_count 2 (some .int) :: ru_T
def wsX11_sheetAt : List Cond := .code yX11_sheetAt cX11_sheetAt 2 (some (.object "RedTent$Sheet")) :: ru_T
def wsX11_sheet : List Cond := .code yX11_sheet cX11_sheet 5 (some .int) :: ru_T
def wsX11_cell : List Cond := .code yX11_cell cX11_cell 5 (some .int) :: ru_T
def wsX11_copy : List Cond := .code yX11_copy cX11_copy 8 (some .int) :: ru_T
def wsX11_fixes : List Cond := .code yX11_fixes cX11_fixes 12 (some .int) :: ru_T
def wsX11_taken : List Cond := .code yX11_taken cX11_taken 4 (some .int) :: ru_T
def wsX12_init : List Cond := .code yX12_init cX12_init 3 none :: ru_T
def wsX12_within : List Cond := .code yX12_within cX12_within 3 (some .boolean) :: ru_T
def wsX12_isHour : List Cond := .code yX12_isHour cX12_isHour 1 (some .boolean) :: ru_T
def wsX12_isCell : List Cond := .code yX12_isCell cX12_isCell 1 (some .boolean) :: ru_T
def wsX12_isBody : List Cond := .code yX12_isBody cX12_isBody 2 (some .boolean) :: ru_T
def wsX12_isSeeker : List Cond := .code yX12_isSeeker cX12_isSeeker 2 (some .boolean) :: ru_T
def wsX12_size : List Cond := .code yX12_size cX12_size 1 (some .int) :: ru_T
def wsX12_apart : List Cond := .code yX12_apart cX12_apart 4 (some .int) :: ru_T
def wsX12_eats : List Cond := .code yX12_eats cX12_eats 3 (some .int) :: ru_T
def wsX12_burns : List Cond := .code yX12_burns cX12_burns 2 (some .int) :: ru_T
def wsX12_pass : List Cond := .code yX12_pass cX12_pass 4 (some .int) :: ru_T
def wsX12_areHours : List Cond := .code yX12_areHours cX12_areHours 2 (some .boolean) :: ru_T
def wsX12_wind : List Cond := .code yX12_wind cX12_wind 5 (some .int) :: ru_T
def wsX12_fog : List Cond := .code yX12_fog cX12_fog 4 (some .int) :: ru_T
def wsX12_fogIn : List Cond := .code yX12_fogIn cX12_fogIn 4 (some .int) :: ru_T
def wsX12_body : List Cond := .code yX12_body cX12_body 6 (some .int) :: ru_T
def wsX12_bodyTold : List Cond := .code yX12_bodyTold cX12_bodyTold 3 (some .int) :: ru_T
def wsX12_drifted : List Cond := .code yX12_drifted cX12_drifted 17 (some .long) :: ru_T
def wsX12_narrowed : List Cond := .code yX12_narrowed cX12_narrowed 9 (some .long) :: ru_T
def wsX12_patchOf : List Cond := .code yX12_patchOf cX12_patchOf 7 (some .long) :: ru_T
def wsX12_patch : List Cond := .code yX12_patch cX12_patch 4 (some .long) :: ru_T
def wsX12_addFix : List Cond := .code yX12_addFix cX12_addFix 5 (some .int) :: ru_T
def wsX12_fix : List Cond := .code yX12_fix cX12_fix 5 (some .int) :: ru_T
def wsX12_hearer : List Cond := .code yX12_hearer cX12_hearer 2 (some .int) :: ru_T
def wsX12_isWave : List Cond := .code yX12_isWave cX12_isWave 1 (some .boolean) :: ru_T
def wsX12_wave : List Cond := .code yX12_wave cX12_wave 7 (some .int) :: ru_T
def wsX12_call : List Cond := .code yX12_call cX12_call 5 (some .int) :: ru_T
def wsX12_isCall : List Cond := .code yX12_isCall cX12_isCall 2 (some .boolean) :: ru_T
def wsX12_canHear : List Cond := .code yX12_canHear cX12_canHear 10 (some .int) :: ru_T
def wsX12_part : List Cond := .code yX12_part cX12_part 6 (some .int) :: ru_T
def wsX12_wordOf : List Cond := .code yX12_wordOf cX12_wordOf 3 (some .int) :: ru_T
def wsX12_word : List Cond := .code yX12_word cX12_word 6 (some .int) :: ru_T
def wsX12_isTrue : List Cond := .code yX12_isTrue cX12_isTrue 5 (some .int) :: ru_T
def wsX12_lane : List Cond := .code yX12_lane cX12_lane 3 (some .int) :: ru_T
def wsX12_flown : List Cond := .code yX12_flown cX12_flown 4 (some .int) :: ru_T
def wsX12_weigh : List Cond := .code yX12_weigh cX12_weigh 9 none :: ru_T
def wsX12_divisor : List Cond := .code yX12_divisor cX12_divisor 10 (some .long) :: ru_T
def wsX12_share : List Cond := .code yX12_share cX12_share 6 (some .long) :: ru_T
def wsX12_partFrom : List Cond := .code yX12_partFrom cX12_partFrom 9 none :: ru_T
def wsX12_countOf : List Cond := .code yX12_countOf cX12_countOf 3 (some .int) :: ru_T
def wsX12_parted : List Cond := .code yX12_parted cX12_parted 7 (some .int) :: ru_T
def wsX12_stays : List Cond := .code yX12_stays cX12_stays 3 (some .int) :: ru_T
def wsX12_canFly : List Cond := .code yX12_canFly cX12_canFly 5 (some .boolean) :: ru_T
def wsX12_comesBack : List Cond := .code yX12_comesBack cX12_comesBack 7 (some .int) :: ru_T
def wsX12_comes : List Cond := .code yX12_comes cX12_comes 5 (some .int) :: ru_T
def wsX12_last : List Cond := .code yX12_last cX12_last 5 (some .int) :: ru_T
def wsX12_man : List Cond := .code yX12_man cX12_man 5 (some .int) :: ru_T
def wsX12_feed : List Cond := .code yX12_feed cX12_feed 5 (some .int) :: ru_T
def wsX12_byteAt : List Cond := .code yX12_byteAt cX12_byteAt 2 (some .int) :: ru_T
def wsX12_isLetter : List Cond := .code yX12_isLetter cX12_isLetter 2 (some .boolean) :: ru_T
def wsX12_isDigit : List Cond := .code yX12_isDigit cX12_isDigit 2 (some .boolean) :: ru_T
def wsX12_next : List Cond := .code yX12_next cX12_next 1 none :: ru_T
def wsX12_is : List Cond := .code yX12_is cX12_is 4 (some .boolean) :: ru_T
def wsX12_take : List Cond := .code yX12_take cX12_take 2 (some .boolean) :: ru_T
def wsX12_wrong : List Cond := .code yX12_wrong cX12_wrong 1 (some .int) :: ru_T
def wsX12_opens : List Cond := .code yX12_opens cX12_opens 2 (some .boolean) :: ru_T
def wsX12_both : List Cond := .code yX12_both cX12_both 3 (some .int) :: ru_T
def wsX12_either : List Cond := .code yX12_either cX12_either 3 (some .int) :: ru_T
def wsX12_one : List Cond := .code yX12_one cX12_one 3 (some .int) :: ru_T
def wsX12_product : List Cond := .code yX12_product cX12_product 2 (some .int) :: ru_T
def wsX12_sum : List Cond := .code yX12_sum cX12_sum 3 (some .int) :: ru_T
def wsX12_turned : List Cond := .code yX12_turned cX12_turned 2 (some .int) :: ru_T
def wsX12_goThrough : List Cond := .code yX12_goThrough cX12_goThrough 4 (some .int) :: ru_T
def wsX12_text : List Cond := .code yX12_text cX12_text 4 (some .int) :: ru_T
def wsX12_force : List Cond := .code yX12_force cX12_force 3 (some .int) :: ru_T
def wsX12_takeOf : List Cond := .code yX12_takeOf cX12_takeOf 3 (some .int) :: ru_T
def wsX12_goOf : List Cond := .code yX12_goOf cX12_goOf 8 (some .int) :: ru_T
def wsX12_says : List Cond := .code yX12_says cX12_says 4 (some .long) :: ru_T
def wsX12_first : List Cond := .code yX12_first cX12_first 6 (some .int) :: ru_T
def wsX12_story : List Cond := .code yX12_story cX12_story 4 (some .int) :: ru_T
def wsX12_unfit : List Cond := .code yX12_unfit cX12_unfit 5 (some .int) :: ru_T
def wsX12_isStory : List Cond := .code yX12_isStory cX12_isStory 2 (some .boolean) :: ru_T
def wsX12_clash : List Cond := .code yX12_clash cX12_clash 8 (some .int) :: ru_T
def wsX12_row : List Cond := .code yX12_row cX12_row 6 (some .int) :: ru_T
def wsX12_goesIn : List Cond := .code yX12_goesIn cX12_goesIn 8 (some .int) :: ru_T
def wsX12_days : List Cond := .code yX12_days cX12_days 11 (some .int) :: ru_T
def wsX12_count : List Cond := .code yX12_count cX12_count 2 (some .int) :: ru_T
def wsX12_isSheet : List Cond := .code yX12_isSheet cX12_isSheet 1 (some .boolean) :: ru_T
def wsX12_sheet : List Cond := .code yX12_sheet cX12_sheet 5 (some .int) :: ru_T
def wsX12_isItem : List Cond := .code yX12_isItem cX12_isItem 4 (some .boolean) :: ru_T
def wsX12_cell : List Cond := .code yX12_cell cX12_cell 4 (some .int) :: ru_T
def wsX12_copy : List Cond := .code yX12_copy cX12_copy 7 (some .int) :: ru_T
def wsX12_fixes : List Cond := .code yX12_fixes cX12_fixes 12 (some .int) :: ru_T
def wsX12_above : List Cond := .code yX12_above cX12_above 1 (some .int) :: ru_T
def wsX12_taken : List Cond := .code yX12_taken cX12_taken 3 (some .int) :: ru_T
def wsJ9_abs_0f7a4 : List Cond := .code yJ9_abs_0f7a4 cJ9_abs_0f7a4 1 (some .int) :: ([])
def wsJ9_max_7cf53 : List Cond := .code yJ9_max_7cf53 cJ9_max_7cf53 2 (some .int) :: ([])
def wsJ9_min_7cf53 : List Cond := .code yJ9_min_7cf53 cJ9_min_7cf53 2 (some .int) :: ([])
abbrev vwCl : List vw_C := [(RX0, TX0, 15), (RX1, TX1, 4), (RX2, TX2, 6), (RX3, TX3, 8), (RX4, TX4, 13), (RX5, TX5, 8), (RX6, TX6, 7), (RX7, TX7, 3), (RX8, TX8, 4), (RX9, TX9, 3), (RX10, TX10, 4), (RX11, TX11, 13), (RX12, TX12, 79)]
