section
variable {p : Program} {l : Launch} {e : Env} {R : Room} {s : State} {m : MethodId} {args : Array Value} {below : List Frame} {meth : Method} {c : Code} {H : Heap} {locs : List Loc} {cells slots : Nat} {Q : State → Prop} {cc : ByteArray} {pc : Nat} {ls : Array Slot} {rest : List Value}
theorem fx_icmp_eq (hexec : p.tables.exec = Jvm.exec) (hb : c.code = cc) {x y : Int32} {a b off : Int} {tgt : Nat} (hdg : decode cc pc = .ok (.if_icmp .eq off, 3)) (ht : (pc : Int) + off = (tgt : Int)) (hx : x.toInt = a) (hy : y.toInt = b) (kt : a = b → W p l e R s m args below meth c H locs cells slots Q (F0 m tgt ls rest)) (kf : ¬ a = b → W p l e R s m args below meth c H locs cells slots Q (F0 m (pc + 3) ls rest)) : W p l e R s m args below meth c H locs cells slots Q (F0 m pc ls (.int y :: .int x :: rest)) :=
  lv_icmp_eq hexec hb hdg ht (fun q => kt (by rw [← hx, ← hy, q])) (fun q => kf (fun z => q ((fa_eq _ _).mpr (by rw [hx, hy]; exact z))))
theorem fx_if_eq (hexec : p.tables.exec = Jvm.exec) (hb : c.code = cc) {x : Int32} {a off : Int} {tgt : Nat} (hdg : decode cc pc = .ok (.ifCond .eq off, 3)) (ht : (pc : Int) + off = (tgt : Int)) (hx : x.toInt = a) (kt : a = 0 → W p l e R s m args below meth c H locs cells slots Q (F0 m tgt ls rest)) (kf : ¬ a = 0 → W p l e R s m args below meth c H locs cells slots Q (F0 m (pc + 3) ls rest)) : W p l e R s m args below meth c H locs cells slots Q (F0 m pc ls (.int x :: rest)) := by
  have hy : (0 : Int32).toInt = 0 := rfl
  exact lv_if_eq hexec hb hdg ht (fun q => kt (by rw [← hx, ← hy, q])) (fun q => kf (fun z => q ((fa_eq _ _).mpr (by rw [hx, hy]; exact z))))
theorem fx_icmp_ne (hexec : p.tables.exec = Jvm.exec) (hb : c.code = cc) {x y : Int32} {a b off : Int} {tgt : Nat} (hdg : decode cc pc = .ok (.if_icmp .ne off, 3)) (ht : (pc : Int) + off = (tgt : Int)) (hx : x.toInt = a) (hy : y.toInt = b) (kt : ¬ a = b → W p l e R s m args below meth c H locs cells slots Q (F0 m tgt ls rest)) (kf : a = b → W p l e R s m args below meth c H locs cells slots Q (F0 m (pc + 3) ls rest)) : W p l e R s m args below meth c H locs cells slots Q (F0 m pc ls (.int y :: .int x :: rest)) :=
  lv_icmp_ne hexec hb hdg ht (fun q => kt (fun z => q ((fa_eq _ _).mpr (by rw [hx, hy]; exact z)))) (fun q => kf (by rw [← hx, ← hy, q]))
theorem fx_if_ne (hexec : p.tables.exec = Jvm.exec) (hb : c.code = cc) {x : Int32} {a off : Int} {tgt : Nat} (hdg : decode cc pc = .ok (.ifCond .ne off, 3)) (ht : (pc : Int) + off = (tgt : Int)) (hx : x.toInt = a) (kt : ¬ a = 0 → W p l e R s m args below meth c H locs cells slots Q (F0 m tgt ls rest)) (kf : a = 0 → W p l e R s m args below meth c H locs cells slots Q (F0 m (pc + 3) ls rest)) : W p l e R s m args below meth c H locs cells slots Q (F0 m pc ls (.int x :: rest)) := by
  have hy : (0 : Int32).toInt = 0 := rfl
  exact lv_if_ne hexec hb hdg ht (fun q => kt (fun z => q ((fa_eq _ _).mpr (by rw [hx, hy]; exact z)))) (fun q => kf (by rw [← hx, ← hy, q]))
theorem fx_icmp_lt (hexec : p.tables.exec = Jvm.exec) (hb : c.code = cc) {x y : Int32} {a b off : Int} {tgt : Nat} (hdg : decode cc pc = .ok (.if_icmp .lt off, 3)) (ht : (pc : Int) + off = (tgt : Int)) (hx : x.toInt = a) (hy : y.toInt = b) (kt : a < b → W p l e R s m args below meth c H locs cells slots Q (F0 m tgt ls rest)) (kf : b ≤ a → W p l e R s m args below meth c H locs cells slots Q (F0 m (pc + 3) ls rest)) : W p l e R s m args below meth c H locs cells slots Q (F0 m pc ls (.int y :: .int x :: rest)) :=
  lv_icmp_lt hexec hb hdg ht (fun q => kt (by have q := (fa_lt _ _).mp q; rw [hx, hy] at q; exact q)) (fun q => kf (by have q := mt (fa_lt _ _).mpr q; rw [hx, hy] at q; omega))
theorem fx_if_lt (hexec : p.tables.exec = Jvm.exec) (hb : c.code = cc) {x : Int32} {a off : Int} {tgt : Nat} (hdg : decode cc pc = .ok (.ifCond .lt off, 3)) (ht : (pc : Int) + off = (tgt : Int)) (hx : x.toInt = a) (kt : a < 0 → W p l e R s m args below meth c H locs cells slots Q (F0 m tgt ls rest)) (kf : 0 ≤ a → W p l e R s m args below meth c H locs cells slots Q (F0 m (pc + 3) ls rest)) : W p l e R s m args below meth c H locs cells slots Q (F0 m pc ls (.int x :: rest)) := by
  have hy : (0 : Int32).toInt = 0 := rfl
  exact lv_if_lt hexec hb hdg ht (fun q => kt (by have q := (fa_lt _ _).mp q; rw [hx, hy] at q; exact q)) (fun q => kf (by have q := mt (fa_lt _ _).mpr q; rw [hx, hy] at q; omega))
theorem fx_icmp_ge (hexec : p.tables.exec = Jvm.exec) (hb : c.code = cc) {x y : Int32} {a b off : Int} {tgt : Nat} (hdg : decode cc pc = .ok (.if_icmp .ge off, 3)) (ht : (pc : Int) + off = (tgt : Int)) (hx : x.toInt = a) (hy : y.toInt = b) (kt : b ≤ a → W p l e R s m args below meth c H locs cells slots Q (F0 m tgt ls rest)) (kf : a < b → W p l e R s m args below meth c H locs cells slots Q (F0 m (pc + 3) ls rest)) : W p l e R s m args below meth c H locs cells slots Q (F0 m pc ls (.int y :: .int x :: rest)) :=
  lv_icmp_ge hexec hb hdg ht (fun q => kt (by have q := (fa_le _ _).mp q; rw [hx, hy] at q; exact q)) (fun q => kf (by have q := mt (fa_le _ _).mpr q; rw [hx, hy] at q; omega))
theorem fx_if_ge (hexec : p.tables.exec = Jvm.exec) (hb : c.code = cc) {x : Int32} {a off : Int} {tgt : Nat} (hdg : decode cc pc = .ok (.ifCond .ge off, 3)) (ht : (pc : Int) + off = (tgt : Int)) (hx : x.toInt = a) (kt : 0 ≤ a → W p l e R s m args below meth c H locs cells slots Q (F0 m tgt ls rest)) (kf : a < 0 → W p l e R s m args below meth c H locs cells slots Q (F0 m (pc + 3) ls rest)) : W p l e R s m args below meth c H locs cells slots Q (F0 m pc ls (.int x :: rest)) := by
  have hy : (0 : Int32).toInt = 0 := rfl
  exact lv_if_ge hexec hb hdg ht (fun q => kt (by have q := (fa_le _ _).mp q; rw [hx, hy] at q; exact q)) (fun q => kf (by have q := mt (fa_le _ _).mpr q; rw [hx, hy] at q; omega))
theorem fx_icmp_gt (hexec : p.tables.exec = Jvm.exec) (hb : c.code = cc) {x y : Int32} {a b off : Int} {tgt : Nat} (hdg : decode cc pc = .ok (.if_icmp .gt off, 3)) (ht : (pc : Int) + off = (tgt : Int)) (hx : x.toInt = a) (hy : y.toInt = b) (kt : b < a → W p l e R s m args below meth c H locs cells slots Q (F0 m tgt ls rest)) (kf : a ≤ b → W p l e R s m args below meth c H locs cells slots Q (F0 m (pc + 3) ls rest)) : W p l e R s m args below meth c H locs cells slots Q (F0 m pc ls (.int y :: .int x :: rest)) :=
  lv_icmp_gt hexec hb hdg ht (fun q => kt (by have q := (fa_lt _ _).mp q; rw [hx, hy] at q; exact q)) (fun q => kf (by have q := mt (fa_lt _ _).mpr q; rw [hx, hy] at q; omega))
theorem fx_if_gt (hexec : p.tables.exec = Jvm.exec) (hb : c.code = cc) {x : Int32} {a off : Int} {tgt : Nat} (hdg : decode cc pc = .ok (.ifCond .gt off, 3)) (ht : (pc : Int) + off = (tgt : Int)) (hx : x.toInt = a) (kt : 0 < a → W p l e R s m args below meth c H locs cells slots Q (F0 m tgt ls rest)) (kf : a ≤ 0 → W p l e R s m args below meth c H locs cells slots Q (F0 m (pc + 3) ls rest)) : W p l e R s m args below meth c H locs cells slots Q (F0 m pc ls (.int x :: rest)) := by
  have hy : (0 : Int32).toInt = 0 := rfl
  exact lv_if_gt hexec hb hdg ht (fun q => kt (by have q := (fa_lt _ _).mp q; rw [hx, hy] at q; exact q)) (fun q => kf (by have q := mt (fa_lt _ _).mpr q; rw [hx, hy] at q; omega))
theorem fx_icmp_le (hexec : p.tables.exec = Jvm.exec) (hb : c.code = cc) {x y : Int32} {a b off : Int} {tgt : Nat} (hdg : decode cc pc = .ok (.if_icmp .le off, 3)) (ht : (pc : Int) + off = (tgt : Int)) (hx : x.toInt = a) (hy : y.toInt = b) (kt : a ≤ b → W p l e R s m args below meth c H locs cells slots Q (F0 m tgt ls rest)) (kf : b < a → W p l e R s m args below meth c H locs cells slots Q (F0 m (pc + 3) ls rest)) : W p l e R s m args below meth c H locs cells slots Q (F0 m pc ls (.int y :: .int x :: rest)) :=
  lv_icmp_le hexec hb hdg ht (fun q => kt (by have q := (fa_le _ _).mp q; rw [hx, hy] at q; exact q)) (fun q => kf (by have q := mt (fa_le _ _).mpr q; rw [hx, hy] at q; omega))
theorem fx_if_le (hexec : p.tables.exec = Jvm.exec) (hb : c.code = cc) {x : Int32} {a off : Int} {tgt : Nat} (hdg : decode cc pc = .ok (.ifCond .le off, 3)) (ht : (pc : Int) + off = (tgt : Int)) (hx : x.toInt = a) (kt : a ≤ 0 → W p l e R s m args below meth c H locs cells slots Q (F0 m tgt ls rest)) (kf : 0 < a → W p l e R s m args below meth c H locs cells slots Q (F0 m (pc + 3) ls rest)) : W p l e R s m args below meth c H locs cells slots Q (F0 m pc ls (.int x :: rest)) := by
  have hy : (0 : Int32).toInt = 0 := rfl
  exact lv_if_le hexec hb hdg ht (fun q => kt (by have q := (fa_le _ _).mp q; rw [hx, hy] at q; exact q)) (fun q => kf (by have q := mt (fa_le _ _).mpr q; rw [hx, hy] at q; omega))
theorem fx_lif_eq (hexec : p.tables.exec = Jvm.exec) (hb : c.code = cc) {x y : Int64} {off : Int} {tgt : Nat} (hdg : decode cc pc = .ok (.ifCond .eq off, 3)) (ht : (pc : Int) + off = (tgt : Int)) (kt : x = y → W p l e R s m args below meth c H locs cells slots Q (F0 m tgt ls rest)) (kf : ¬ x = y → W p l e R s m args below meth c H locs cells slots Q (F0 m (pc + 3) ls rest)) : W p l e R s m args below meth c H locs cells slots Q (F0 m pc ls (.int (lg_cmp x y) :: rest)) :=
  lv_if_eq hexec hb hdg ht (fun q => kt ((lg_cmp_eq _ _).mp q)) (fun q => kf (fun z => q ((lg_cmp_eq _ _).mpr z)))
theorem fx_lif_ne (hexec : p.tables.exec = Jvm.exec) (hb : c.code = cc) {x y : Int64} {off : Int} {tgt : Nat} (hdg : decode cc pc = .ok (.ifCond .ne off, 3)) (ht : (pc : Int) + off = (tgt : Int)) (kt : ¬ x = y → W p l e R s m args below meth c H locs cells slots Q (F0 m tgt ls rest)) (kf : x = y → W p l e R s m args below meth c H locs cells slots Q (F0 m (pc + 3) ls rest)) : W p l e R s m args below meth c H locs cells slots Q (F0 m pc ls (.int (lg_cmp x y) :: rest)) :=
  lv_if_ne hexec hb hdg ht (fun q => kt (fun z => q ((lg_cmp_eq _ _).mpr z))) (fun q => kf ((lg_cmp_eq _ _).mp q))
theorem fx_lif_lt (hexec : p.tables.exec = Jvm.exec) (hb : c.code = cc) {x y : Int64} {off : Int} {tgt : Nat} (hdg : decode cc pc = .ok (.ifCond .lt off, 3)) (ht : (pc : Int) + off = (tgt : Int)) (kt : x.toInt < y.toInt → W p l e R s m args below meth c H locs cells slots Q (F0 m tgt ls rest)) (kf : y.toInt ≤ x.toInt → W p l e R s m args below meth c H locs cells slots Q (F0 m (pc + 3) ls rest)) : W p l e R s m args below meth c H locs cells slots Q (F0 m pc ls (.int (lg_cmp x y) :: rest)) :=
  lv_if_lt hexec hb hdg ht (fun q => kt ((fa_lt64 _ _).mp ((lg_cmp_lt _ _).mp q))) (fun q => kf (Int.not_lt.mp (fun z => q ((lg_cmp_lt _ _).mpr ((fa_lt64 _ _).mpr z)))))
theorem fx_lif_ge (hexec : p.tables.exec = Jvm.exec) (hb : c.code = cc) {x y : Int64} {off : Int} {tgt : Nat} (hdg : decode cc pc = .ok (.ifCond .ge off, 3)) (ht : (pc : Int) + off = (tgt : Int)) (kt : y.toInt ≤ x.toInt → W p l e R s m args below meth c H locs cells slots Q (F0 m tgt ls rest)) (kf : x.toInt < y.toInt → W p l e R s m args below meth c H locs cells slots Q (F0 m (pc + 3) ls rest)) : W p l e R s m args below meth c H locs cells slots Q (F0 m pc ls (.int (lg_cmp x y) :: rest)) :=
  lv_if_ge hexec hb hdg ht (fun q => kt ((fa_le64 _ _).mp ((lg_cmp_ge _ _).mp q))) (fun q => kf (Int.not_le.mp (fun z => q ((lg_cmp_ge _ _).mpr ((fa_le64 _ _).mpr z)))))
theorem fx_lif_gt (hexec : p.tables.exec = Jvm.exec) (hb : c.code = cc) {x y : Int64} {off : Int} {tgt : Nat} (hdg : decode cc pc = .ok (.ifCond .gt off, 3)) (ht : (pc : Int) + off = (tgt : Int)) (kt : y.toInt < x.toInt → W p l e R s m args below meth c H locs cells slots Q (F0 m tgt ls rest)) (kf : x.toInt ≤ y.toInt → W p l e R s m args below meth c H locs cells slots Q (F0 m (pc + 3) ls rest)) : W p l e R s m args below meth c H locs cells slots Q (F0 m pc ls (.int (lg_cmp x y) :: rest)) :=
  lv_if_gt hexec hb hdg ht (fun q => kt ((fa_lt64 _ _).mp ((lg_cmp_gt _ _).mp q))) (fun q => kf (Int.not_lt.mp (fun z => q ((lg_cmp_gt _ _).mpr ((fa_lt64 _ _).mpr z)))))
theorem fx_lif_le (hexec : p.tables.exec = Jvm.exec) (hb : c.code = cc) {x y : Int64} {off : Int} {tgt : Nat} (hdg : decode cc pc = .ok (.ifCond .le off, 3)) (ht : (pc : Int) + off = (tgt : Int)) (kt : x.toInt ≤ y.toInt → W p l e R s m args below meth c H locs cells slots Q (F0 m tgt ls rest)) (kf : y.toInt < x.toInt → W p l e R s m args below meth c H locs cells slots Q (F0 m (pc + 3) ls rest)) : W p l e R s m args below meth c H locs cells slots Q (F0 m pc ls (.int (lg_cmp x y) :: rest)) :=
  lv_if_le hexec hb hdg ht (fun q => kt ((fa_le64 _ _).mp ((lg_cmp_le _ _).mp q))) (fun q => kf (Int.not_le.mp (fun z => q ((lg_cmp_le _ _).mpr ((fa_le64 _ _).mpr z)))))
theorem fx_iadd (hexec : p.tables.exec = Jvm.exec) (hb : c.code = cc) {x y : Int32} {a b : Int} (hdg : decode cc pc = .ok (.iadd, 1)) (hx : x.toInt = a) (hy : y.toInt = b) (h : -2147483648 ≤ a + b ∧ a + b < 2147483648) (kk : ∀ r : Int32, r = x + y → r.toInt = a + b → W p l e R s m args below meth c H locs cells slots Q (F0 m (pc + 1) ls (.int r :: rest))) : W p l e R s m args below meth c H locs cells slots Q (F0 m pc ls (.int y :: .int x :: rest)) :=
  lv_iadd hexec hb hdg (kk _ rfl (by rw [zi_add x y (by rw [hx, hy]; exact h.1) (by rw [hx, hy]; exact h.2), hx, hy]))
theorem fx_iaddU (hexec : p.tables.exec = Jvm.exec) (hb : c.code = cc) {x y : Int32} (hdg : decode cc pc = .ok (.iadd, 1)) (kk : ∀ r : Int32, r = x + y → W p l e R s m args below meth c H locs cells slots Q (F0 m (pc + 1) ls (.int r :: rest))) : W p l e R s m args below meth c H locs cells slots Q (F0 m pc ls (.int y :: .int x :: rest)) :=
  lv_iadd hexec hb hdg (kk _ rfl)
theorem fx_isub (hexec : p.tables.exec = Jvm.exec) (hb : c.code = cc) {x y : Int32} {a b : Int} (hdg : decode cc pc = .ok (.isub, 1)) (hx : x.toInt = a) (hy : y.toInt = b) (h : -2147483648 ≤ a - b ∧ a - b < 2147483648) (kk : ∀ r : Int32, r = x - y → r.toInt = a - b → W p l e R s m args below meth c H locs cells slots Q (F0 m (pc + 1) ls (.int r :: rest))) : W p l e R s m args below meth c H locs cells slots Q (F0 m pc ls (.int y :: .int x :: rest)) :=
  lv_isub hexec hb hdg (kk _ rfl (by rw [zi_sub x y (by rw [hx, hy]; exact h.1) (by rw [hx, hy]; exact h.2), hx, hy]))
theorem fx_isubU (hexec : p.tables.exec = Jvm.exec) (hb : c.code = cc) {x y : Int32} (hdg : decode cc pc = .ok (.isub, 1)) (kk : ∀ r : Int32, r = x - y → W p l e R s m args below meth c H locs cells slots Q (F0 m (pc + 1) ls (.int r :: rest))) : W p l e R s m args below meth c H locs cells slots Q (F0 m pc ls (.int y :: .int x :: rest)) :=
  lv_isub hexec hb hdg (kk _ rfl)
theorem fx_imul (hexec : p.tables.exec = Jvm.exec) (hb : c.code = cc) {x y : Int32} {a b : Int} (hdg : decode cc pc = .ok (.imul, 1)) (hx : x.toInt = a) (hy : y.toInt = b) (h : -2147483648 ≤ a * b ∧ a * b < 2147483648) (kk : ∀ r : Int32, r = x * y → r.toInt = a * b → W p l e R s m args below meth c H locs cells slots Q (F0 m (pc + 1) ls (.int r :: rest))) : W p l e R s m args below meth c H locs cells slots Q (F0 m pc ls (.int y :: .int x :: rest)) :=
  lv_imul hexec hb hdg (kk _ rfl (by rw [zi_mul x y (by rw [hx, hy]; exact h.1) (by rw [hx, hy]; exact h.2), hx, hy]))
theorem fx_imulU (hexec : p.tables.exec = Jvm.exec) (hb : c.code = cc) {x y : Int32} (hdg : decode cc pc = .ok (.imul, 1)) (kk : ∀ r : Int32, r = x * y → W p l e R s m args below meth c H locs cells slots Q (F0 m (pc + 1) ls (.int r :: rest))) : W p l e R s m args below meth c H locs cells slots Q (F0 m pc ls (.int y :: .int x :: rest)) :=
  lv_imul hexec hb hdg (kk _ rfl)
theorem zi_mulb {a b p q : Int} (ha : 0 ≤ a ∧ a ≤ p) (hb : 0 ≤ b ∧ b ≤ q) : 0 ≤ a * b ∧ a * b ≤ p * q := ⟨Int.mul_nonneg ha.1 hb.1, Int.mul_le_mul ha.2 hb.2 hb.1 (Int.le_trans ha.1 ha.2)⟩
theorem zi_div {x y : Int32} {a b : Int} (hx : x.toInt = a) (hy : y.toInt = b) (ha : 0 ≤ a) (hb : 0 < b) : (x / y).toInt = a / b := by
  rw [Int32.toInt_div, hx, hy, Int.tdiv_eq_ediv_of_nonneg ha, Int.bmod_eq_of_le]
  · have := Int.ediv_nonneg ha (Int.le_of_lt hb); omega
  · have h1 := Int32.toInt_lt x
    have h2 : a / b ≤ a := Int.ediv_le_self b ha
    omega
theorem zi_rem {x y : Int32} {a b : Int} (hx : x.toInt = a) (hy : y.toInt = b) (ha : 0 ≤ a) (hb : 0 < b) : (x - x / y * y).toInt = a % b := by
  have hd := zi_div hx hy ha hb
  have h1 := Int32.toInt_lt x
  have h0 : 0 ≤ a / b := Int.ediv_nonneg ha (Int.le_of_lt hb)
  have h3 : a / b * b ≤ a := Int.ediv_mul_le a (by omega)
  have h4 : 0 ≤ a / b * b := Int.mul_nonneg h0 (Int.le_of_lt hb)
  have hm : (x / y * y).toInt = a / b * b := by
    rw [zi_mul _ _ (by rw [hd, hy]; omega) (by rw [hd, hy]; omega), hd, hy]
  rw [zi_sub _ _ (by rw [hx, hm]; omega) (by rw [hx, hm]; omega), hx, hm]
  have := Int.emod_add_mul_ediv a b
  rw [Int.mul_comm b (a / b)] at this
  omega
theorem zi_and1 (x : Int32) : 0 ≤ (x &&& 1).toInt ∧ (x &&& 1).toInt ≤ 1 := by
  have h : (x &&& 1) = 0 ∨ (x &&& 1) = 1 := by
    have h3 : (x &&& 1).toBitVec.toNat = x.toBitVec.toNat % 2 := by
      show (x.toBitVec &&& 1#32).toNat = _
      rw [BitVec.toNat_and]
      exact Nat.and_one_is_mod _
    have h2 : (x &&& 1).toBitVec = 0#32 ∨ (x &&& 1).toBitVec = 1#32 := by
      rcases Nat.mod_two_eq_zero_or_one x.toBitVec.toNat with h | h
      · exact Or.inl (BitVec.eq_of_toNat_eq (by rw [h3, h]; rfl))
      · exact Or.inr (BitVec.eq_of_toNat_eq (by rw [h3, h]; rfl))
    rcases h2 with h2 | h2
    · exact Or.inl (Int32.toBitVec_inj.mp h2)
    · exact Or.inr (Int32.toBitVec_inj.mp h2)
  rcases h with h | h <;> rw [h] <;> decide
theorem fx_imulB (hexec : p.tables.exec = Jvm.exec) (hb : c.code = cc) {x y : Int32} {a b p1 q1 : Int} (hdg : decode cc pc = .ok (.imul, 1)) (hx : x.toInt = a) (hy : y.toInt = b) (ha : 0 ≤ a ∧ a ≤ p1) (hb2 : 0 ≤ b ∧ b ≤ q1) (hm : p1 * q1 < 2147483648) (kk : ∀ r : Int32, r = x * y → r.toInt = a * b → 0 ≤ r.toInt ∧ r.toInt ≤ p1 * q1 → W p l e R s m args below meth c H locs cells slots Q (F0 m (pc + 1) ls (.int r :: rest))) : W p l e R s m args below meth c H locs cells slots Q (F0 m pc ls (.int y :: .int x :: rest)) := by
  have h := zi_mulb ha hb2
  have h2 : (x * y).toInt = a * b := by rw [zi_mul x y (by rw [hx, hy]; omega) (by rw [hx, hy]; omega), hx, hy]
  exact lv_imul hexec hb hdg (kk _ rfl h2 (by rw [h2]; exact h))
theorem fx_idiv (hexec : p.tables.exec = Jvm.exec) (hb : c.code = cc) {x y : Int32} {a b : Int} (hdg : decode cc pc = .ok (.idiv, 1)) (hx : x.toInt = a) (hy : y.toInt = b) (ha : 0 ≤ a) (hb2 : 0 < b) (kk : ∀ r : Int32, r = x / y → r.toInt = a / b → W p l e R s m args below meth c H locs cells slots Q (F0 m (pc + 1) ls (.int r :: rest))) : W p l e R s m args below meth c H locs cells slots Q (F0 m pc ls (.int y :: .int x :: rest)) :=
  lv_idiv hexec hb hdg (fun q => by rw [q] at hy; have : (0 : Int32).toInt = 0 := rfl; omega) (kk _ rfl (zi_div hx hy ha hb2))
theorem fx_irem (hexec : p.tables.exec = Jvm.exec) (hb : c.code = cc) {x y : Int32} {a b : Int} (hdg : decode cc pc = .ok (.irem, 1)) (hx : x.toInt = a) (hy : y.toInt = b) (ha : 0 ≤ a) (hb2 : 0 < b) (kk : ∀ r : Int32, r = x - x / y * y → r.toInt = a % b → W p l e R s m args below meth c H locs cells slots Q (F0 m (pc + 1) ls (.int r :: rest))) : W p l e R s m args below meth c H locs cells slots Q (F0 m pc ls (.int y :: .int x :: rest)) :=
  lv_irem hexec hb hdg (fun q => by rw [q] at hy; have : (0 : Int32).toInt = 0 := rfl; omega) (kk _ rfl (zi_rem hx hy ha hb2))
theorem fx_idivU (hexec : p.tables.exec = Jvm.exec) (hb : c.code = cc) {x y : Int32} (hdg : decode cc pc = .ok (.idiv, 1)) (hy : y.toInt ≠ 0) (kk : ∀ r : Int32, r = x / y → W p l e R s m args below meth c H locs cells slots Q (F0 m (pc + 1) ls (.int r :: rest))) : W p l e R s m args below meth c H locs cells slots Q (F0 m pc ls (.int y :: .int x :: rest)) :=
  lv_idiv hexec hb hdg (fun q => hy (by rw [q]; rfl)) (kk _ rfl)
theorem fx_iremU (hexec : p.tables.exec = Jvm.exec) (hb : c.code = cc) {x y : Int32} (hdg : decode cc pc = .ok (.irem, 1)) (hy : y.toInt ≠ 0) (kk : ∀ r : Int32, r = x - x / y * y → W p l e R s m args below meth c H locs cells slots Q (F0 m (pc + 1) ls (.int r :: rest))) : W p l e R s m args below meth c H locs cells slots Q (F0 m pc ls (.int y :: .int x :: rest)) :=
  lv_irem hexec hb hdg (fun q => hy (by rw [q]; rfl)) (kk _ rfl)
theorem fx_iand1 (hexec : p.tables.exec = Jvm.exec) (hb : c.code = cc) {x : Int32} (hdg : decode cc pc = .ok (.iand, 1)) (kk : ∀ r : Int32, r = x &&& 1 → 0 ≤ r.toInt ∧ r.toInt ≤ 1 → W p l e R s m args below meth c H locs cells slots Q (F0 m (pc + 1) ls (.int r :: rest))) : W p l e R s m args below meth c H locs cells slots Q (F0 m pc ls (.int 1 :: .int x :: rest)) :=
  lv_iand hexec hb hdg (kk _ rfl (zi_and1 x))
theorem zi_i2l (x : Int32) : x.toInt64.toInt = x.toInt := by simp
theorem fx_i2l (hexec : p.tables.exec = Jvm.exec) (hb : c.code = cc) {x : Int32} {a : Int} (hdg : decode cc pc = .ok (.i2l, 1)) (hx : x.toInt = a) (kk : ∀ r : Int64, r = x.toInt64 → r.toInt = a → W p l e R s m args below meth c H locs cells slots Q (F0 m (pc + 1) ls (.long r :: rest))) : W p l e R s m args below meth c H locs cells slots Q (F0 m pc ls (.int x :: rest)) :=
  lv_i2l hexec hb hdg rfl (kk _ rfl (by rw [zi_i2l, hx]))
theorem zi_l2i {x : Int64} (h : -2147483648 ≤ x.toInt ∧ x.toInt < 2147483648) : x.toInt32.toInt = x.toInt := by
  rw [Int64.toInt_toInt32, Int.bmod_eq_of_le (by omega) (by omega)]
theorem fx_l2i (hexec : p.tables.exec = Jvm.exec) (hb : c.code = cc) {x : Int64} (hdg : decode cc pc = .ok (.l2i, 1)) (h : -2147483648 ≤ x.toInt ∧ x.toInt < 2147483648) (kk : ∀ r : Int32, r = x.toInt32 → r.toInt = x.toInt → W p l e R s m args below meth c H locs cells slots Q (F0 m (pc + 1) ls (.int r :: rest))) : W p l e R s m args below meth c H locs cells slots Q (F0 m pc ls (.long x :: rest)) :=
  lv_l2i hexec hb hdg rfl (kk _ rfl (zi_l2i h))
theorem zl_add {a b : Int64} (h : -9223372036854775808 ≤ a.toInt + b.toInt ∧ a.toInt + b.toInt < 9223372036854775808) : (a + b).toInt = a.toInt + b.toInt := by
  rw [Int64.toInt_add, Int.bmod_eq_of_le (by omega) (by omega)]
theorem zl_mul {a b : Int64} (h : -9223372036854775808 ≤ a.toInt * b.toInt ∧ a.toInt * b.toInt < 9223372036854775808) : (a * b).toInt = a.toInt * b.toInt := by
  rw [Int64.toInt_mul, Int.bmod_eq_of_le (by omega) (by omega)]
theorem zi_lt (x : Int32) : -2147483648 ≤ x.toInt ∧ x.toInt ≤ 2147483647 := by
  have h1 := Int32.toInt_lt x; have h2 := Int32.le_toInt x; omega
theorem zi_neg {x : Int32} {a : Int} (hx : x.toInt = a) (h : -2147483648 < a) : (-x).toInt = -a := by
  rw [Int32.toInt_neg, hx, Int.bmod_eq_of_le (by have := zi_lt x; omega) (by have := zi_lt x; omega)]
theorem fx_ineg (hexec : p.tables.exec = Jvm.exec) (hb : c.code = cc) {x : Int32} {a : Int} (hdg : decode cc pc = .ok (.ineg, 1)) (hx : x.toInt = a) (h : -2147483648 < a) (kk : ∀ r : Int32, r = -x → r.toInt = -a → W p l e R s m args below meth c H locs cells slots Q (F0 m (pc + 1) ls (.int r :: rest))) : W p l e R s m args below meth c H locs cells slots Q (F0 m pc ls (.int x :: rest)) :=
  lv_ineg hexec hb hdg (kk _ rfl (zi_neg hx h))
theorem zi_cln {x : Int32} {n : Nat} (h : 0 ≤ x.toInt ∧ x.toInt < n) : x.toNatClampNeg < n := by
  rw [Int32.toNatClampNeg]; omega
theorem zi_nar {x : Int32} (h : 0 ≤ x.toInt ∧ x.toInt ≤ 1) : narrow .boolean (.int x) = .int x := by
  rcases (show x = 0 ∨ x = 1 by simp only [fa_eq, Int32.reduceToInt]; omega) with rfl | rfl <;> rfl
theorem zi_abs {x : Int32} {a : Int} (hx : x.toInt = a) (h : -2147483648 < a) : (if 0 ≤ x then x else 0 - x).toInt = if 0 ≤ a then a else -a := by
  have e0 : (0 : Int32).toInt = 0 := rfl
  by_cases z : (0 : Int32) ≤ x
  · rw [if_pos z, if_pos (by rw [← hx, ← e0]; exact (fa_le _ _).mp z), hx]
  · have z2 : ¬ (0 : Int) ≤ a := fun q => z ((fa_le _ _).mpr (by rw [e0, hx]; exact q))
    have h1 := Int32.toInt_lt x
    rw [if_neg z, if_neg z2, zi_sub _ _ (by rw [e0, hx]; omega) (by rw [e0, hx]; omega), e0, hx]
    omega
theorem zi_max {x y : Int32} {a b : Int} (hx : x.toInt = a) (hy : y.toInt = b) : (if x < y then y else x).toInt = if a < b then b else a := by
  by_cases z : x < y
  · rw [if_pos z, if_pos (by rw [← hx, ← hy]; exact (fa_lt _ _).mp z), hy]
  · rw [if_neg z, if_neg (fun q => z ((fa_lt _ _).mpr (by rw [hx, hy]; exact q))), hx]
theorem zi_min {x y : Int32} {a b : Int} (hx : x.toInt = a) (hy : y.toInt = b) : (if y < x then y else x).toInt = if b < a then b else a := by
  by_cases z : y < x
  · rw [if_pos z, if_pos (by rw [← hx, ← hy]; exact (fa_lt _ _).mp z), hy]
  · rw [if_neg z, if_neg (fun q => z ((fa_lt _ _).mpr (by rw [hx, hy]; exact q))), hx]
theorem sb_0 (j : Nat) : (-18) ≤ (([-2, 2, -18, -1, -17] : List Int32).getD j 0).toInt ∧ (([-2, 2, -18, -1, -17] : List Int32).getD j 0).toInt ≤ 2 := by
  match j with
  | 0 => exact (by decide)
  | 1 => exact (by decide)
  | 2 => exact (by decide)
  | 3 => exact (by decide)
  | 4 => exact (by decide)
  | _ + 5 => exact (by decide : (-18) ≤ (0 : Int32).toInt ∧ (0 : Int32).toInt ≤ 2)
theorem sb_1 (j : Nat) : (-18) ≤ (([-6, 6, -18, -5, -14] : List Int32).getD j 0).toInt ∧ (([-6, 6, -18, -5, -14] : List Int32).getD j 0).toInt ≤ 6 := by
  match j with
  | 0 => exact (by decide)
  | 1 => exact (by decide)
  | 2 => exact (by decide)
  | 3 => exact (by decide)
  | 4 => exact (by decide)
  | _ + 5 => exact (by decide : (-18) ≤ (0 : Int32).toInt ∧ (0 : Int32).toInt ≤ 6)
theorem sb_2 (j : Nat) : 0 ≤ (([1, 3, 9, 27, 81, 243] : List Int32).getD j 0).toInt ∧ (([1, 3, 9, 27, 81, 243] : List Int32).getD j 0).toInt ≤ 243 := by
  match j with
  | 0 => exact (by decide)
  | 1 => exact (by decide)
  | 2 => exact (by decide)
  | 3 => exact (by decide)
  | 4 => exact (by decide)
  | 5 => exact (by decide)
  | _ + 6 => exact (by decide : 0 ≤ (0 : Int32).toInt ∧ (0 : Int32).toInt ≤ 243)
theorem sb_3 (j : Nat) : (-1) ≤ (([-1, 0, 0, 1, 1, 2] : List Int32).getD j 0).toInt ∧ (([-1, 0, 0, 1, 1, 2] : List Int32).getD j 0).toInt ≤ 2 := by
  match j with
  | 0 => exact (by decide)
  | 1 => exact (by decide)
  | 2 => exact (by decide)
  | 3 => exact (by decide)
  | 4 => exact (by decide)
  | 5 => exact (by decide)
  | _ + 6 => exact (by decide : (-1) ≤ (0 : Int32).toInt ∧ (0 : Int32).toInt ≤ 2)
theorem sb_4 (j : Nat) : 0 ≤ (([0, 1, 0, 1, 2, 0] : List Int32).getD j 0).toInt ∧ (([0, 1, 0, 1, 2, 0] : List Int32).getD j 0).toInt ≤ 2 := by
  match j with
  | 0 => exact (by decide)
  | 1 => exact (by decide)
  | 2 => exact (by decide)
  | 3 => exact (by decide)
  | 4 => exact (by decide)
  | 5 => exact (by decide)
  | _ + 6 => exact (by decide : 0 ≤ (0 : Int32).toInt ∧ (0 : Int32).toInt ≤ 2)
theorem sb_5 (j : Nat) : 0 ≤ (([0, 0, 0, 1, 0, 1] : List Int32).getD j 0).toInt ∧ (([0, 0, 0, 1, 0, 1] : List Int32).getD j 0).toInt ≤ 1 := by
  match j with
  | 0 => exact (by decide)
  | 1 => exact (by decide)
  | 2 => exact (by decide)
  | 3 => exact (by decide)
  | 4 => exact (by decide)
  | 5 => exact (by decide)
  | _ + 6 => exact (by decide : 0 ≤ (0 : Int32).toInt ∧ (0 : Int32).toInt ≤ 1)
theorem sb_6 (j : Nat) : 0 ≤ (([1, 1, 3, 1, 1, 6] : List Int32).getD j 0).toInt ∧ (([1, 1, 3, 1, 1, 6] : List Int32).getD j 0).toInt ≤ 6 := by
  match j with
  | 0 => exact (by decide)
  | 1 => exact (by decide)
  | 2 => exact (by decide)
  | 3 => exact (by decide)
  | 4 => exact (by decide)
  | 5 => exact (by decide)
  | _ + 6 => exact (by decide : 0 ≤ (0 : Int32).toInt ∧ (0 : Int32).toInt ≤ 6)
end
theorem zk_m20 : ((-20) : Int32).toInt = (-20) := rfl
theorem zk_m19 : ((-19) : Int32).toInt = (-19) := rfl
theorem zk_m18 : ((-18) : Int32).toInt = (-18) := rfl
theorem zk_m17 : ((-17) : Int32).toInt = (-17) := rfl
theorem zk_m16 : ((-16) : Int32).toInt = (-16) := rfl
theorem zk_m15 : ((-15) : Int32).toInt = (-15) := rfl
theorem zk_m14 : ((-14) : Int32).toInt = (-14) := rfl
theorem zk_m13 : ((-13) : Int32).toInt = (-13) := rfl
theorem zk_m12 : ((-12) : Int32).toInt = (-12) := rfl
theorem zk_m11 : ((-11) : Int32).toInt = (-11) := rfl
theorem zk_m10 : ((-10) : Int32).toInt = (-10) := rfl
theorem zk_m9 : ((-9) : Int32).toInt = (-9) := rfl
theorem zk_m8 : ((-8) : Int32).toInt = (-8) := rfl
theorem zk_m7 : ((-7) : Int32).toInt = (-7) := rfl
theorem zk_m6 : ((-6) : Int32).toInt = (-6) := rfl
theorem zk_m5 : ((-5) : Int32).toInt = (-5) := rfl
theorem zk_m4 : ((-4) : Int32).toInt = (-4) := rfl
theorem zk_m3 : ((-3) : Int32).toInt = (-3) := rfl
theorem zk_m2 : ((-2) : Int32).toInt = (-2) := rfl
theorem zk_m1 : ((-1) : Int32).toInt = (-1) := rfl
theorem zk_0 : (0 : Int32).toInt = 0 := rfl
theorem zk_1 : (1 : Int32).toInt = 1 := rfl
theorem zk_2 : (2 : Int32).toInt = 2 := rfl
theorem zk_3 : (3 : Int32).toInt = 3 := rfl
theorem zk_4 : (4 : Int32).toInt = 4 := rfl
theorem zk_5 : (5 : Int32).toInt = 5 := rfl
theorem zk_6 : (6 : Int32).toInt = 6 := rfl
theorem zk_7 : (7 : Int32).toInt = 7 := rfl
theorem zk_8 : (8 : Int32).toInt = 8 := rfl
theorem zk_9 : (9 : Int32).toInt = 9 := rfl
theorem zk_10 : (10 : Int32).toInt = 10 := rfl
theorem zk_11 : (11 : Int32).toInt = 11 := rfl
theorem zk_12 : (12 : Int32).toInt = 12 := rfl
theorem zk_13 : (13 : Int32).toInt = 13 := rfl
theorem zk_14 : (14 : Int32).toInt = 14 := rfl
theorem zk_15 : (15 : Int32).toInt = 15 := rfl
theorem zk_16 : (16 : Int32).toInt = 16 := rfl
theorem zk_17 : (17 : Int32).toInt = 17 := rfl
theorem zk_18 : (18 : Int32).toInt = 18 := rfl
theorem zk_19 : (19 : Int32).toInt = 19 := rfl
theorem zk_20 : (20 : Int32).toInt = 20 := rfl
theorem zk_21 : (21 : Int32).toInt = 21 := rfl
theorem zk_22 : (22 : Int32).toInt = 22 := rfl
theorem zk_23 : (23 : Int32).toInt = 23 := rfl
theorem zk_24 : (24 : Int32).toInt = 24 := rfl
theorem zk_25 : (25 : Int32).toInt = 25 := rfl
theorem zk_26 : (26 : Int32).toInt = 26 := rfl
theorem zk_27 : (27 : Int32).toInt = 27 := rfl
theorem zk_28 : (28 : Int32).toInt = 28 := rfl
theorem zk_29 : (29 : Int32).toInt = 29 := rfl
theorem zk_30 : (30 : Int32).toInt = 30 := rfl
theorem zk_31 : (31 : Int32).toInt = 31 := rfl
theorem zk_32 : (32 : Int32).toInt = 32 := rfl
theorem zk_33 : (33 : Int32).toInt = 33 := rfl
theorem zk_34 : (34 : Int32).toInt = 34 := rfl
theorem zk_35 : (35 : Int32).toInt = 35 := rfl
theorem zk_36 : (36 : Int32).toInt = 36 := rfl
theorem zk_37 : (37 : Int32).toInt = 37 := rfl
theorem zk_38 : (38 : Int32).toInt = 38 := rfl
theorem zk_39 : (39 : Int32).toInt = 39 := rfl
theorem zk_40 : (40 : Int32).toInt = 40 := rfl
theorem zk_41 : (41 : Int32).toInt = 41 := rfl
theorem zk_42 : (42 : Int32).toInt = 42 := rfl
theorem zk_43 : (43 : Int32).toInt = 43 := rfl
theorem zk_44 : (44 : Int32).toInt = 44 := rfl
theorem zk_45 : (45 : Int32).toInt = 45 := rfl
theorem zk_46 : (46 : Int32).toInt = 46 := rfl
theorem zk_47 : (47 : Int32).toInt = 47 := rfl
theorem zk_48 : (48 : Int32).toInt = 48 := rfl
theorem zk_49 : (49 : Int32).toInt = 49 := rfl
theorem zk_50 : (50 : Int32).toInt = 50 := rfl
theorem zk_51 : (51 : Int32).toInt = 51 := rfl
theorem zk_52 : (52 : Int32).toInt = 52 := rfl
theorem zk_53 : (53 : Int32).toInt = 53 := rfl
theorem zk_54 : (54 : Int32).toInt = 54 := rfl
theorem zk_55 : (55 : Int32).toInt = 55 := rfl
theorem zk_56 : (56 : Int32).toInt = 56 := rfl
theorem zk_57 : (57 : Int32).toInt = 57 := rfl
theorem zk_58 : (58 : Int32).toInt = 58 := rfl
theorem zk_59 : (59 : Int32).toInt = 59 := rfl
theorem zk_60 : (60 : Int32).toInt = 60 := rfl
theorem zk_61 : (61 : Int32).toInt = 61 := rfl
theorem zk_62 : (62 : Int32).toInt = 62 := rfl
theorem zk_63 : (63 : Int32).toInt = 63 := rfl
theorem zk_64 : (64 : Int32).toInt = 64 := rfl
theorem zk_65 : (65 : Int32).toInt = 65 := rfl
theorem zk_66 : (66 : Int32).toInt = 66 := rfl
theorem zk_67 : (67 : Int32).toInt = 67 := rfl
theorem zk_68 : (68 : Int32).toInt = 68 := rfl
theorem zk_69 : (69 : Int32).toInt = 69 := rfl
theorem zk_70 : (70 : Int32).toInt = 70 := rfl
theorem zk_71 : (71 : Int32).toInt = 71 := rfl
theorem zk_72 : (72 : Int32).toInt = 72 := rfl
theorem zk_73 : (73 : Int32).toInt = 73 := rfl
theorem zk_74 : (74 : Int32).toInt = 74 := rfl
theorem zk_75 : (75 : Int32).toInt = 75 := rfl
theorem zk_76 : (76 : Int32).toInt = 76 := rfl
theorem zk_77 : (77 : Int32).toInt = 77 := rfl
theorem zk_78 : (78 : Int32).toInt = 78 := rfl
theorem zk_79 : (79 : Int32).toInt = 79 := rfl
theorem zk_80 : (80 : Int32).toInt = 80 := rfl
theorem zk_81 : (81 : Int32).toInt = 81 := rfl
theorem zk_82 : (82 : Int32).toInt = 82 := rfl
theorem zk_83 : (83 : Int32).toInt = 83 := rfl
theorem zk_84 : (84 : Int32).toInt = 84 := rfl
theorem zk_85 : (85 : Int32).toInt = 85 := rfl
theorem zk_86 : (86 : Int32).toInt = 86 := rfl
theorem zk_87 : (87 : Int32).toInt = 87 := rfl
theorem zk_88 : (88 : Int32).toInt = 88 := rfl
theorem zk_89 : (89 : Int32).toInt = 89 := rfl
theorem zk_90 : (90 : Int32).toInt = 90 := rfl
theorem zk_91 : (91 : Int32).toInt = 91 := rfl
theorem zk_92 : (92 : Int32).toInt = 92 := rfl
theorem zk_93 : (93 : Int32).toInt = 93 := rfl
theorem zk_94 : (94 : Int32).toInt = 94 := rfl
theorem zk_95 : (95 : Int32).toInt = 95 := rfl
theorem zk_96 : (96 : Int32).toInt = 96 := rfl
theorem zk_97 : (97 : Int32).toInt = 97 := rfl
theorem zk_98 : (98 : Int32).toInt = 98 := rfl
theorem zk_99 : (99 : Int32).toInt = 99 := rfl
theorem zk_100 : (100 : Int32).toInt = 100 := rfl
theorem zk_101 : (101 : Int32).toInt = 101 := rfl
theorem zk_102 : (102 : Int32).toInt = 102 := rfl
theorem zk_103 : (103 : Int32).toInt = 103 := rfl
theorem zk_104 : (104 : Int32).toInt = 104 := rfl
theorem zk_105 : (105 : Int32).toInt = 105 := rfl
theorem zk_106 : (106 : Int32).toInt = 106 := rfl
theorem zk_107 : (107 : Int32).toInt = 107 := rfl
theorem zk_108 : (108 : Int32).toInt = 108 := rfl
theorem zk_109 : (109 : Int32).toInt = 109 := rfl
theorem zk_110 : (110 : Int32).toInt = 110 := rfl
theorem zk_111 : (111 : Int32).toInt = 111 := rfl
theorem zk_112 : (112 : Int32).toInt = 112 := rfl
theorem zk_113 : (113 : Int32).toInt = 113 := rfl
theorem zk_114 : (114 : Int32).toInt = 114 := rfl
theorem zk_115 : (115 : Int32).toInt = 115 := rfl
theorem zk_116 : (116 : Int32).toInt = 116 := rfl
theorem zk_117 : (117 : Int32).toInt = 117 := rfl
theorem zk_118 : (118 : Int32).toInt = 118 := rfl
theorem zk_119 : (119 : Int32).toInt = 119 := rfl
theorem zk_120 : (120 : Int32).toInt = 120 := rfl
theorem zk_121 : (121 : Int32).toInt = 121 := rfl
theorem zk_122 : (122 : Int32).toInt = 122 := rfl
theorem zk_123 : (123 : Int32).toInt = 123 := rfl
theorem zk_124 : (124 : Int32).toInt = 124 := rfl
theorem zk_125 : (125 : Int32).toInt = 125 := rfl
theorem zk_126 : (126 : Int32).toInt = 126 := rfl
theorem zk_127 : (127 : Int32).toInt = 127 := rfl
theorem zk_128 : (128 : Int32).toInt = 128 := rfl
theorem zk_129 : (129 : Int32).toInt = 129 := rfl
theorem zk_130 : (130 : Int32).toInt = 130 := rfl
theorem zk_131 : (131 : Int32).toInt = 131 := rfl
theorem zk_132 : (132 : Int32).toInt = 132 := rfl
theorem zk_133 : (133 : Int32).toInt = 133 := rfl
theorem zk_134 : (134 : Int32).toInt = 134 := rfl
theorem zk_135 : (135 : Int32).toInt = 135 := rfl
theorem zk_136 : (136 : Int32).toInt = 136 := rfl
theorem zk_137 : (137 : Int32).toInt = 137 := rfl
theorem zk_138 : (138 : Int32).toInt = 138 := rfl
theorem zk_139 : (139 : Int32).toInt = 139 := rfl
theorem zk_140 : (140 : Int32).toInt = 140 := rfl
theorem zk_141 : (141 : Int32).toInt = 141 := rfl
theorem zk_142 : (142 : Int32).toInt = 142 := rfl
theorem zk_143 : (143 : Int32).toInt = 143 := rfl
theorem zk_144 : (144 : Int32).toInt = 144 := rfl
theorem zk_145 : (145 : Int32).toInt = 145 := rfl
theorem zk_146 : (146 : Int32).toInt = 146 := rfl
theorem zk_147 : (147 : Int32).toInt = 147 := rfl
theorem zk_148 : (148 : Int32).toInt = 148 := rfl
theorem zk_149 : (149 : Int32).toInt = 149 := rfl
theorem zk_150 : (150 : Int32).toInt = 150 := rfl
theorem zk_151 : (151 : Int32).toInt = 151 := rfl
theorem zk_152 : (152 : Int32).toInt = 152 := rfl
theorem zk_153 : (153 : Int32).toInt = 153 := rfl
theorem zk_154 : (154 : Int32).toInt = 154 := rfl
theorem zk_155 : (155 : Int32).toInt = 155 := rfl
theorem zk_156 : (156 : Int32).toInt = 156 := rfl
theorem zk_157 : (157 : Int32).toInt = 157 := rfl
theorem zk_158 : (158 : Int32).toInt = 158 := rfl
theorem zk_159 : (159 : Int32).toInt = 159 := rfl
theorem zk_160 : (160 : Int32).toInt = 160 := rfl
theorem zk_161 : (161 : Int32).toInt = 161 := rfl
theorem zk_162 : (162 : Int32).toInt = 162 := rfl
theorem zk_163 : (163 : Int32).toInt = 163 := rfl
theorem zk_164 : (164 : Int32).toInt = 164 := rfl
theorem zk_165 : (165 : Int32).toInt = 165 := rfl
theorem zk_166 : (166 : Int32).toInt = 166 := rfl
theorem zk_167 : (167 : Int32).toInt = 167 := rfl
theorem zk_168 : (168 : Int32).toInt = 168 := rfl
theorem zk_169 : (169 : Int32).toInt = 169 := rfl
theorem zk_170 : (170 : Int32).toInt = 170 := rfl
theorem zk_171 : (171 : Int32).toInt = 171 := rfl
theorem zk_172 : (172 : Int32).toInt = 172 := rfl
theorem zk_173 : (173 : Int32).toInt = 173 := rfl
theorem zk_174 : (174 : Int32).toInt = 174 := rfl
theorem zk_175 : (175 : Int32).toInt = 175 := rfl
theorem zk_176 : (176 : Int32).toInt = 176 := rfl
theorem zk_177 : (177 : Int32).toInt = 177 := rfl
theorem zk_178 : (178 : Int32).toInt = 178 := rfl
theorem zk_179 : (179 : Int32).toInt = 179 := rfl
theorem zk_180 : (180 : Int32).toInt = 180 := rfl
theorem zk_181 : (181 : Int32).toInt = 181 := rfl
theorem zk_182 : (182 : Int32).toInt = 182 := rfl
theorem zk_183 : (183 : Int32).toInt = 183 := rfl
theorem zk_184 : (184 : Int32).toInt = 184 := rfl
theorem zk_185 : (185 : Int32).toInt = 185 := rfl
theorem zk_186 : (186 : Int32).toInt = 186 := rfl
theorem zk_187 : (187 : Int32).toInt = 187 := rfl
theorem zk_188 : (188 : Int32).toInt = 188 := rfl
theorem zk_189 : (189 : Int32).toInt = 189 := rfl
theorem zk_190 : (190 : Int32).toInt = 190 := rfl
theorem zk_191 : (191 : Int32).toInt = 191 := rfl
theorem zk_192 : (192 : Int32).toInt = 192 := rfl
theorem zk_193 : (193 : Int32).toInt = 193 := rfl
theorem zk_194 : (194 : Int32).toInt = 194 := rfl
theorem zk_195 : (195 : Int32).toInt = 195 := rfl
theorem zk_196 : (196 : Int32).toInt = 196 := rfl
theorem zk_197 : (197 : Int32).toInt = 197 := rfl
theorem zk_198 : (198 : Int32).toInt = 198 := rfl
theorem zk_199 : (199 : Int32).toInt = 199 := rfl
theorem zk_200 : (200 : Int32).toInt = 200 := rfl
theorem zk_201 : (201 : Int32).toInt = 201 := rfl
theorem zk_202 : (202 : Int32).toInt = 202 := rfl
theorem zk_203 : (203 : Int32).toInt = 203 := rfl
theorem zk_204 : (204 : Int32).toInt = 204 := rfl
theorem zk_205 : (205 : Int32).toInt = 205 := rfl
theorem zk_206 : (206 : Int32).toInt = 206 := rfl
theorem zk_207 : (207 : Int32).toInt = 207 := rfl
theorem zk_208 : (208 : Int32).toInt = 208 := rfl
theorem zk_209 : (209 : Int32).toInt = 209 := rfl
theorem zk_210 : (210 : Int32).toInt = 210 := rfl
theorem zk_211 : (211 : Int32).toInt = 211 := rfl
theorem zk_212 : (212 : Int32).toInt = 212 := rfl
theorem zk_213 : (213 : Int32).toInt = 213 := rfl
theorem zk_214 : (214 : Int32).toInt = 214 := rfl
theorem zk_215 : (215 : Int32).toInt = 215 := rfl
theorem zk_216 : (216 : Int32).toInt = 216 := rfl
theorem zk_217 : (217 : Int32).toInt = 217 := rfl
theorem zk_218 : (218 : Int32).toInt = 218 := rfl
theorem zk_219 : (219 : Int32).toInt = 219 := rfl
theorem zk_220 : (220 : Int32).toInt = 220 := rfl
theorem zk_221 : (221 : Int32).toInt = 221 := rfl
theorem zk_222 : (222 : Int32).toInt = 222 := rfl
theorem zk_223 : (223 : Int32).toInt = 223 := rfl
theorem zk_224 : (224 : Int32).toInt = 224 := rfl
theorem zk_225 : (225 : Int32).toInt = 225 := rfl
theorem zk_226 : (226 : Int32).toInt = 226 := rfl
theorem zk_227 : (227 : Int32).toInt = 227 := rfl
theorem zk_228 : (228 : Int32).toInt = 228 := rfl
theorem zk_229 : (229 : Int32).toInt = 229 := rfl
theorem zk_230 : (230 : Int32).toInt = 230 := rfl
theorem zk_231 : (231 : Int32).toInt = 231 := rfl
theorem zk_232 : (232 : Int32).toInt = 232 := rfl
theorem zk_233 : (233 : Int32).toInt = 233 := rfl
theorem zk_234 : (234 : Int32).toInt = 234 := rfl
theorem zk_235 : (235 : Int32).toInt = 235 := rfl
theorem zk_236 : (236 : Int32).toInt = 236 := rfl
theorem zk_237 : (237 : Int32).toInt = 237 := rfl
theorem zk_238 : (238 : Int32).toInt = 238 := rfl
theorem zk_239 : (239 : Int32).toInt = 239 := rfl
theorem zk_240 : (240 : Int32).toInt = 240 := rfl
theorem zk_241 : (241 : Int32).toInt = 241 := rfl
theorem zk_242 : (242 : Int32).toInt = 242 := rfl
theorem zk_243 : (243 : Int32).toInt = 243 := rfl
theorem zk_244 : (244 : Int32).toInt = 244 := rfl
theorem zk_245 : (245 : Int32).toInt = 245 := rfl
theorem zk_246 : (246 : Int32).toInt = 246 := rfl
theorem zk_247 : (247 : Int32).toInt = 247 := rfl
theorem zk_248 : (248 : Int32).toInt = 248 := rfl
theorem zk_249 : (249 : Int32).toInt = 249 := rfl
theorem zk_250 : (250 : Int32).toInt = 250 := rfl
theorem zk_251 : (251 : Int32).toInt = 251 := rfl
theorem zk_252 : (252 : Int32).toInt = 252 := rfl
theorem zk_253 : (253 : Int32).toInt = 253 := rfl
theorem zk_254 : (254 : Int32).toInt = 254 := rfl
theorem zk_255 : (255 : Int32).toInt = 255 := rfl
theorem zk_999 : (999 : Int32).toInt = 999 := rfl
theorem zk_1000 : (1000 : Int32).toInt = 1000 := rfl
theorem zk_2222 : (2222 : Int32).toInt = 2222 := rfl
theorem zk_4444 : (4444 : Int32).toInt = 4444 := rfl
theorem zk_9999 : (9999 : Int32).toInt = 9999 := rfl
theorem zk_65535 : (65535 : Int32).toInt = 65535 := rfl
theorem zk_65536 : (65536 : Int32).toInt = 65536 := rfl
