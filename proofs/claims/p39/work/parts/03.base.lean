/-! numbers as integers, for omega -/
theorem fa_lt (a b : Int32) : a < b ↔ a.toInt < b.toInt := Int32.lt_iff_toInt_lt
theorem fa_le (a b : Int32) : a ≤ b ↔ a.toInt ≤ b.toInt := Int32.le_iff_toInt_le
theorem fa_eq (a b : Int32) : a = b ↔ a.toInt = b.toInt := Int32.toInt_inj.symm
theorem fa_lt64 (a b : Int64) : a < b ↔ a.toInt < b.toInt := Int64.lt_iff_toInt_lt
theorem fa_le64 (a b : Int64) : a ≤ b ↔ a.toInt ≤ b.toInt := Int64.le_iff_toInt_le
theorem fa_eq64 (a b : Int64) : a = b ↔ a.toInt = b.toInt := Int64.toInt_inj.symm
theorem zi_ite (c : Prop) [Decidable c] (a b : Int32) : (if c then a else b).toInt = if c then a.toInt else b.toInt := by split <;> rfl
theorem va_aldA {p : Program} {l : Launch} {e : Env} {R : Room} {s : State} {m : MethodId} {args : Array Value} {below : List Frame} {meth : Method} {c : Code} {H : Heap} {locs : List Loc} {cells slots : Nat} {Q : State → Prop} {cc : ByteArray} {pc : Nat} {ls : Array Slot} {rest : List Value} {D : va_G} {cl : List vw_C} {a : Nat} {tys : List (ClassId × FieldType)} {ws : va_W} (hexec : p.tables.exec = Jvm.exec) (hb : c.code = cc) (hK : va_K D cl tys s) (hP : va_P D cl ws H) (q0 t0 : Nat) {cA : ClassId} {t : FieldType} {n : Nat} {f : Nat → Option Nat} (ha : ws[q0]? = some (a, .inl (cA, n, .inr (.inr (.inr (.inr f)))))) (ht : tys[t0]? = some (cA, .array t)) {i : Int32} (hin : vp_in i n) (hdg : decode cc pc = .ok (.aaload, 1))
    (kk : W p l e R s m args below meth c H locs cells slots Q (F0 m (pc + 1) ls (va_rf (f i.toNatClampNeg) :: rest))) : W p l e R s m args below meth c H locs cells slots Q (F0 m pc ls (.int i :: .ref a :: rest)) := by
  have hlt : i.toNatClampNeg < n := Nat.not_le.mp fun q => hin (Or.inr q)
  exact W.aald (v := va_rf (f i.toNatClampNeg)) (ty := .array t) hexec hb (hP q0 _ ha) ((hK.2 t0 _ ht).1 n (fun j => va_rf (f j))) rfl (fun q => by cases q) (by show ¬ (i < 0 ∨ (arrV _ _ _).slots.size ≤ _); rw [arrV_size]; exact hin) (by show (arrV _ _ _).slots[_]? = _; rw [arrV_read _ _ hlt]) rfl rfl hdg kk
theorem zi_0div (y : Int32) : (0 : Int32) / y = 0 := by
  rw [fa_eq, Int32.toInt_div]
  simp
theorem zi_cl {d : Int32} (h : 0 ≤ d.toInt) : ((d.toNatClampNeg : Nat) : Int) = d.toInt := by
  rw [Int32.toNatClampNeg]; omega
theorem rt_pw {n : Int32} (h : 0 ≤ n.toInt ∧ n.toInt < 6) : 1 ≤ (([1, 3, 9, 27, 81, 243] : List Int32).getD n.toNatClampNeg 0).toInt ∧ (([1, 3, 9, 27, 81, 243] : List Int32).getD n.toNatClampNeg 0).toInt ≤ 243 ∧ (n.toInt = 0 ∨ 3 ≤ (([1, 3, 9, 27, 81, 243] : List Int32).getD n.toNatClampNeg 0).toInt) := by
  rcases (show n = 0 ∨ n = 1 ∨ n = 2 ∨ n = 3 ∨ n = 4 ∨ n = 5 by simp only [fa_eq, Int32.reduceToInt]; omega) with rfl | rfl | rfl | rfl | rfl | rfl <;> decide
theorem zi_bm {z : Int} (h1 : -2147483648 ≤ z) (h2 : z < 2147483648) : z.bmod (2 ^ 32) = z := by
  rw [Int.bmod_eq_of_le (by omega) (by omega)]
theorem zi_add (a b : Int32) (h1 : -2147483648 ≤ a.toInt + b.toInt) (h2 : a.toInt + b.toInt < 2147483648) : (a + b).toInt = a.toInt + b.toInt := by
  rw [Int32.toInt_add, zi_bm h1 h2]
theorem zi_sub (a b : Int32) (h1 : -2147483648 ≤ a.toInt - b.toInt) (h2 : a.toInt - b.toInt < 2147483648) : (a - b).toInt = a.toInt - b.toInt := by
  rw [Int32.toInt_sub, zi_bm h1 h2]
theorem zi_mul (a b : Int32) (h1 : -2147483648 ≤ a.toInt * b.toInt) (h2 : a.toInt * b.toInt < 2147483648) : (a * b).toInt = a.toInt * b.toInt := by
  rw [Int32.toInt_mul, zi_bm h1 h2]
theorem zi_inc {a : Int32} (h : a.toInt < 2147483647) : (a + 1).toInt = a.toInt + 1 := zi_add a 1 (by have h8 := Int32.le_toInt a; simp only [Int32.reduceToInt]; omega) (by simp only [Int32.reduceToInt]; omega)
