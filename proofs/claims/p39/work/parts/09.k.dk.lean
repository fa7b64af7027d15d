theorem dk_u1 {c : ByteArray} {p : Nat} (hp : p < c.size) : (Jvm.ClassFile.Reader.u1 : Jvm.ClassFile.Decoder Nat) c p = (Except.ok (c[p].toNat, p + 1) : Except Jvm.ClassFile.DecodeError (Nat × Nat)) := by
  unfold Jvm.ClassFile.Reader.u1
  show ((if h : p < c.size then (do set (p + 1); pure c[p].toNat : Jvm.ClassFile.Decoder Nat) else throw _) c p) = _
  rw [dif_pos hp]
  rfl
theorem dk_by {c : ByteArray} {L C : List UInt8} {n m j p a : Nat} {x : UInt8} (hc : c.data.toList = L) (h : (L.drop n).take m = C) (hx : C[j]? = some x) (hp : n + j = p) (ha : x.toNat = a) : (Jvm.ClassFile.Reader.u1 : Jvm.ClassFile.Decoder Nat) c p = (Except.ok (a, p + 1) : Except Jvm.ClassFile.DecodeError (Nat × Nat)) := by
  have hx1 : L[n + j]? = some x := by
    rw [← h, List.getElem?_take] at hx
    split at hx
    · rw [List.getElem?_drop] at hx
      exact hx
    · exact absurd hx (by simp)
  rw [hp, ← hc] at hx1
  obtain ⟨h1, h2⟩ := List.getElem?_eq_some_iff.mp hx1
  have h3 : p < c.size := h1
  have h4 : c[p] = x := h2
  rw [dk_u1 h3, h4, ha]
theorem dk_run {c : ByteArray} {pc a : Nat} {K : Nat → Jvm.ClassFile.Decoder Instr} (e : Jvm.ClassFile.Decoder.instr pc = (bind Jvm.ClassFile.Reader.u1 K : Jvm.ClassFile.Decoder Instr)) (h : (Jvm.ClassFile.Reader.u1 : Jvm.ClassFile.Decoder Nat) c pc = (Except.ok (a, pc + 1) : Except Jvm.ClassFile.DecodeError (Nat × Nat))) {i : Instr} {q : Nat} (hk : K a c (pc + 1) = (Except.ok (i, q) : Except Jvm.ClassFile.DecodeError (Instr × Nat))) : decode c pc = .ok (i, q - pc) := by
  have e1 : (Jvm.ClassFile.Decoder.instr pc) c pc = (Except.ok (i, q) : Except Jvm.ClassFile.DecodeError (Instr × Nat)) := by
    rw [e]
    show Except.bind ((Jvm.ClassFile.Reader.u1 : Jvm.ClassFile.Decoder Nat) c pc) _ = _
    rw [h]
    exact hk
  show Except.bind ((Jvm.ClassFile.Decoder.instr pc) c pc) _ = _
  rw [e1]
  rfl
theorem dk_0 {c : ByteArray} {pc a : Nat} {i : Instr} (hK : ∃ K : Nat → Jvm.ClassFile.Decoder Instr, Jvm.ClassFile.Decoder.instr pc = (bind Jvm.ClassFile.Reader.u1 K : Jvm.ClassFile.Decoder Instr) ∧ K a = (pure i : Jvm.ClassFile.Decoder Instr)) (h : (Jvm.ClassFile.Reader.u1 : Jvm.ClassFile.Decoder Nat) c pc = (Except.ok (a, pc + 1) : Except Jvm.ClassFile.DecodeError (Nat × Nat))) : decode c pc = .ok (i, 1) := by
  obtain ⟨K, e, k⟩ := hK
  have r := dk_run e h (i := i) (q := pc + 1) (by rw [k]; rfl)
  rw [Nat.add_sub_cancel_left] at r
  exact r
theorem dk_w {c : ByteArray} {p b d : Nat} (h1 : (Jvm.ClassFile.Reader.u1 : Jvm.ClassFile.Decoder Nat) c p = (Except.ok (b, p + 1) : Except Jvm.ClassFile.DecodeError (Nat × Nat))) (h2 : (Jvm.ClassFile.Reader.u1 : Jvm.ClassFile.Decoder Nat) c (p + 1) = (Except.ok (d, p + 1 + 1) : Except Jvm.ClassFile.DecodeError (Nat × Nat))) : (Jvm.ClassFile.Reader.u2 : Jvm.ClassFile.Decoder Nat) c p = (Except.ok (b * 256 + d, p + 2) : Except Jvm.ClassFile.DecodeError (Nat × Nat)) := by
  show Except.bind ((Jvm.ClassFile.Reader.u1 : Jvm.ClassFile.Decoder Nat) c p) _ = _
  rw [h1]
  show Except.bind ((Jvm.ClassFile.Reader.u1 : Jvm.ClassFile.Decoder Nat) c (p + 1)) _ = _
  rw [h2]
  rfl
theorem dk_2 {c : ByteArray} {pc a b d v : Nat} {g : Nat → Instr} (hK : ∃ K : Nat → Jvm.ClassFile.Decoder Instr, Jvm.ClassFile.Decoder.instr pc = (bind Jvm.ClassFile.Reader.u1 K : Jvm.ClassFile.Decoder Instr) ∧ K a = (bind Jvm.ClassFile.Reader.u2 (fun x => pure (g x)) : Jvm.ClassFile.Decoder Instr)) (h : (Jvm.ClassFile.Reader.u1 : Jvm.ClassFile.Decoder Nat) c pc = (Except.ok (a, pc + 1) : Except Jvm.ClassFile.DecodeError (Nat × Nat))) (h1 : (Jvm.ClassFile.Reader.u1 : Jvm.ClassFile.Decoder Nat) c (pc + 1) = (Except.ok (b, pc + 1 + 1) : Except Jvm.ClassFile.DecodeError (Nat × Nat))) (h2 : (Jvm.ClassFile.Reader.u1 : Jvm.ClassFile.Decoder Nat) c (pc + 1 + 1) = (Except.ok (d, pc + 1 + 1 + 1) : Except Jvm.ClassFile.DecodeError (Nat × Nat))) (hv : b * 256 + d = v) : decode c pc = .ok (g v, 3) := by
  obtain ⟨K, e, k⟩ := hK
  have r := dk_run e h (i := g v) (q := pc + 3) (by
    rw [k]
    show Except.bind ((Jvm.ClassFile.Reader.u2 : Jvm.ClassFile.Decoder Nat) c (pc + 1)) _ = _
    rw [dk_w h1 h2, hv]
    rfl)
  rw [Nat.add_sub_cancel_left] at r
  exact r
theorem dk_s {c : ByteArray} {pc a b d : Nat} {v : Int} {g : Int → Instr} (hK : ∃ K : Nat → Jvm.ClassFile.Decoder Instr, Jvm.ClassFile.Decoder.instr pc = (bind Jvm.ClassFile.Reader.u1 K : Jvm.ClassFile.Decoder Instr) ∧ K a = (bind Jvm.ClassFile.Reader.s2 (fun x => pure (g x)) : Jvm.ClassFile.Decoder Instr)) (h : (Jvm.ClassFile.Reader.u1 : Jvm.ClassFile.Decoder Nat) c pc = (Except.ok (a, pc + 1) : Except Jvm.ClassFile.DecodeError (Nat × Nat))) (h1 : (Jvm.ClassFile.Reader.u1 : Jvm.ClassFile.Decoder Nat) c (pc + 1) = (Except.ok (b, pc + 1 + 1) : Except Jvm.ClassFile.DecodeError (Nat × Nat))) (h2 : (Jvm.ClassFile.Reader.u1 : Jvm.ClassFile.Decoder Nat) c (pc + 1 + 1) = (Except.ok (d, pc + 1 + 1 + 1) : Except Jvm.ClassFile.DecodeError (Nat × Nat))) (hv : Jvm.ClassFile.Reader.signed 16 (b * 256 + d) = v) : decode c pc = .ok (g v, 3) := by
  obtain ⟨K, e, k⟩ := hK
  have r := dk_run e h (i := g v) (q := pc + 3) (by
    rw [k]
    show Except.bind ((Jvm.ClassFile.Reader.s2 : Jvm.ClassFile.Decoder Int) c (pc + 1)) _ = _
    have e2 : (Jvm.ClassFile.Reader.s2 : Jvm.ClassFile.Decoder Int) c (pc + 1) = (Except.ok (v, pc + 3) : Except Jvm.ClassFile.DecodeError (Int × Nat)) := by
      show Except.bind ((Jvm.ClassFile.Reader.u2 : Jvm.ClassFile.Decoder Nat) c (pc + 1)) _ = _
      rw [dk_w h1 h2, ← hv]
      rfl
    rw [e2]
    rfl)
  rw [Nat.add_sub_cancel_left] at r
  exact r
theorem dk_1 {c : ByteArray} {pc a b : Nat} {v : Int} {g : Int → Instr} (hK : ∃ K : Nat → Jvm.ClassFile.Decoder Instr, Jvm.ClassFile.Decoder.instr pc = (bind Jvm.ClassFile.Reader.u1 K : Jvm.ClassFile.Decoder Instr) ∧ K a = (bind Jvm.ClassFile.Reader.s1 (fun x => pure (g x)) : Jvm.ClassFile.Decoder Instr)) (h : (Jvm.ClassFile.Reader.u1 : Jvm.ClassFile.Decoder Nat) c pc = (Except.ok (a, pc + 1) : Except Jvm.ClassFile.DecodeError (Nat × Nat))) (h1 : (Jvm.ClassFile.Reader.u1 : Jvm.ClassFile.Decoder Nat) c (pc + 1) = (Except.ok (b, pc + 1 + 1) : Except Jvm.ClassFile.DecodeError (Nat × Nat))) (hv : Jvm.ClassFile.Reader.signed 8 b = v) : decode c pc = .ok (g v, 2) := by
  obtain ⟨K, e, k⟩ := hK
  have r := dk_run e h (i := g v) (q := pc + 2) (by
    rw [k]
    show Except.bind ((Jvm.ClassFile.Reader.s1 : Jvm.ClassFile.Decoder Int) c (pc + 1)) _ = _
    have e2 : (Jvm.ClassFile.Reader.s1 : Jvm.ClassFile.Decoder Int) c (pc + 1) = (Except.ok (v, pc + 2) : Except Jvm.ClassFile.DecodeError (Int × Nat)) := by
      show Except.bind ((Jvm.ClassFile.Reader.u1 : Jvm.ClassFile.Decoder Nat) c (pc + 1)) _ = _
      rw [h1, ← hv]
      rfl
    rw [e2]
    rfl)
  rw [Nat.add_sub_cancel_left] at r
  exact r
theorem dk_k2 (pc : Nat) : ∃ K : Nat → Jvm.ClassFile.Decoder Instr, Jvm.ClassFile.Decoder.instr pc = (bind Jvm.ClassFile.Reader.u1 K : Jvm.ClassFile.Decoder Instr) ∧ K 2 = (pure (.iconst (-1)) : Jvm.ClassFile.Decoder Instr) := ⟨_, rfl, rfl⟩
theorem dk_k3 (pc : Nat) : ∃ K : Nat → Jvm.ClassFile.Decoder Instr, Jvm.ClassFile.Decoder.instr pc = (bind Jvm.ClassFile.Reader.u1 K : Jvm.ClassFile.Decoder Instr) ∧ K 3 = (pure (.iconst 0) : Jvm.ClassFile.Decoder Instr) := ⟨_, rfl, rfl⟩
theorem dk_k4 (pc : Nat) : ∃ K : Nat → Jvm.ClassFile.Decoder Instr, Jvm.ClassFile.Decoder.instr pc = (bind Jvm.ClassFile.Reader.u1 K : Jvm.ClassFile.Decoder Instr) ∧ K 4 = (pure (.iconst 1) : Jvm.ClassFile.Decoder Instr) := ⟨_, rfl, rfl⟩
theorem dk_k5 (pc : Nat) : ∃ K : Nat → Jvm.ClassFile.Decoder Instr, Jvm.ClassFile.Decoder.instr pc = (bind Jvm.ClassFile.Reader.u1 K : Jvm.ClassFile.Decoder Instr) ∧ K 5 = (pure (.iconst 2) : Jvm.ClassFile.Decoder Instr) := ⟨_, rfl, rfl⟩
theorem dk_k6 (pc : Nat) : ∃ K : Nat → Jvm.ClassFile.Decoder Instr, Jvm.ClassFile.Decoder.instr pc = (bind Jvm.ClassFile.Reader.u1 K : Jvm.ClassFile.Decoder Instr) ∧ K 6 = (pure (.iconst 3) : Jvm.ClassFile.Decoder Instr) := ⟨_, rfl, rfl⟩
theorem dk_k7 (pc : Nat) : ∃ K : Nat → Jvm.ClassFile.Decoder Instr, Jvm.ClassFile.Decoder.instr pc = (bind Jvm.ClassFile.Reader.u1 K : Jvm.ClassFile.Decoder Instr) ∧ K 7 = (pure (.iconst 4) : Jvm.ClassFile.Decoder Instr) := ⟨_, rfl, rfl⟩
theorem dk_k8 (pc : Nat) : ∃ K : Nat → Jvm.ClassFile.Decoder Instr, Jvm.ClassFile.Decoder.instr pc = (bind Jvm.ClassFile.Reader.u1 K : Jvm.ClassFile.Decoder Instr) ∧ K 8 = (pure (.iconst 5) : Jvm.ClassFile.Decoder Instr) := ⟨_, rfl, rfl⟩
theorem dk_k9 (pc : Nat) : ∃ K : Nat → Jvm.ClassFile.Decoder Instr, Jvm.ClassFile.Decoder.instr pc = (bind Jvm.ClassFile.Reader.u1 K : Jvm.ClassFile.Decoder Instr) ∧ K 9 = (pure (.lconst 0) : Jvm.ClassFile.Decoder Instr) := ⟨_, rfl, rfl⟩
theorem dk_k10 (pc : Nat) : ∃ K : Nat → Jvm.ClassFile.Decoder Instr, Jvm.ClassFile.Decoder.instr pc = (bind Jvm.ClassFile.Reader.u1 K : Jvm.ClassFile.Decoder Instr) ∧ K 10 = (pure (.lconst 1) : Jvm.ClassFile.Decoder Instr) := ⟨_, rfl, rfl⟩
theorem dk_k16 (pc : Nat) : ∃ K : Nat → Jvm.ClassFile.Decoder Instr, Jvm.ClassFile.Decoder.instr pc = (bind Jvm.ClassFile.Reader.u1 K : Jvm.ClassFile.Decoder Instr) ∧ K 16 = (bind Jvm.ClassFile.Reader.s1 (fun x => pure (.bipush x)) : Jvm.ClassFile.Decoder Instr) := ⟨_, rfl, rfl⟩
theorem dk_k17 (pc : Nat) : ∃ K : Nat → Jvm.ClassFile.Decoder Instr, Jvm.ClassFile.Decoder.instr pc = (bind Jvm.ClassFile.Reader.u1 K : Jvm.ClassFile.Decoder Instr) ∧ K 17 = (bind Jvm.ClassFile.Reader.s2 (fun x => pure (.sipush x)) : Jvm.ClassFile.Decoder Instr) := ⟨_, rfl, rfl⟩
theorem dk_k20 (pc : Nat) : ∃ K : Nat → Jvm.ClassFile.Decoder Instr, Jvm.ClassFile.Decoder.instr pc = (bind Jvm.ClassFile.Reader.u1 K : Jvm.ClassFile.Decoder Instr) ∧ K 20 = (bind Jvm.ClassFile.Reader.u2 (fun x => pure (.ldc2_w x)) : Jvm.ClassFile.Decoder Instr) := ⟨_, rfl, rfl⟩
theorem dk_k26 (pc : Nat) : ∃ K : Nat → Jvm.ClassFile.Decoder Instr, Jvm.ClassFile.Decoder.instr pc = (bind Jvm.ClassFile.Reader.u1 K : Jvm.ClassFile.Decoder Instr) ∧ K 26 = (pure (.iload_n 0) : Jvm.ClassFile.Decoder Instr) := ⟨_, rfl, rfl⟩
theorem dk_k27 (pc : Nat) : ∃ K : Nat → Jvm.ClassFile.Decoder Instr, Jvm.ClassFile.Decoder.instr pc = (bind Jvm.ClassFile.Reader.u1 K : Jvm.ClassFile.Decoder Instr) ∧ K 27 = (pure (.iload_n 1) : Jvm.ClassFile.Decoder Instr) := ⟨_, rfl, rfl⟩
theorem dk_k28 (pc : Nat) : ∃ K : Nat → Jvm.ClassFile.Decoder Instr, Jvm.ClassFile.Decoder.instr pc = (bind Jvm.ClassFile.Reader.u1 K : Jvm.ClassFile.Decoder Instr) ∧ K 28 = (pure (.iload_n 2) : Jvm.ClassFile.Decoder Instr) := ⟨_, rfl, rfl⟩
theorem dk_k29 (pc : Nat) : ∃ K : Nat → Jvm.ClassFile.Decoder Instr, Jvm.ClassFile.Decoder.instr pc = (bind Jvm.ClassFile.Reader.u1 K : Jvm.ClassFile.Decoder Instr) ∧ K 29 = (pure (.iload_n 3) : Jvm.ClassFile.Decoder Instr) := ⟨_, rfl, rfl⟩
theorem dk_k42 (pc : Nat) : ∃ K : Nat → Jvm.ClassFile.Decoder Instr, Jvm.ClassFile.Decoder.instr pc = (bind Jvm.ClassFile.Reader.u1 K : Jvm.ClassFile.Decoder Instr) ∧ K 42 = (pure (.aload_n 0) : Jvm.ClassFile.Decoder Instr) := ⟨_, rfl, rfl⟩
theorem dk_k43 (pc : Nat) : ∃ K : Nat → Jvm.ClassFile.Decoder Instr, Jvm.ClassFile.Decoder.instr pc = (bind Jvm.ClassFile.Reader.u1 K : Jvm.ClassFile.Decoder Instr) ∧ K 43 = (pure (.aload_n 1) : Jvm.ClassFile.Decoder Instr) := ⟨_, rfl, rfl⟩
theorem dk_k44 (pc : Nat) : ∃ K : Nat → Jvm.ClassFile.Decoder Instr, Jvm.ClassFile.Decoder.instr pc = (bind Jvm.ClassFile.Reader.u1 K : Jvm.ClassFile.Decoder Instr) ∧ K 44 = (pure (.aload_n 2) : Jvm.ClassFile.Decoder Instr) := ⟨_, rfl, rfl⟩
theorem dk_k45 (pc : Nat) : ∃ K : Nat → Jvm.ClassFile.Decoder Instr, Jvm.ClassFile.Decoder.instr pc = (bind Jvm.ClassFile.Reader.u1 K : Jvm.ClassFile.Decoder Instr) ∧ K 45 = (pure (.aload_n 3) : Jvm.ClassFile.Decoder Instr) := ⟨_, rfl, rfl⟩
theorem dk_k46 (pc : Nat) : ∃ K : Nat → Jvm.ClassFile.Decoder Instr, Jvm.ClassFile.Decoder.instr pc = (bind Jvm.ClassFile.Reader.u1 K : Jvm.ClassFile.Decoder Instr) ∧ K 46 = (pure (.iaload) : Jvm.ClassFile.Decoder Instr) := ⟨_, rfl, rfl⟩
theorem dk_k59 (pc : Nat) : ∃ K : Nat → Jvm.ClassFile.Decoder Instr, Jvm.ClassFile.Decoder.instr pc = (bind Jvm.ClassFile.Reader.u1 K : Jvm.ClassFile.Decoder Instr) ∧ K 59 = (pure (.istore_n 0) : Jvm.ClassFile.Decoder Instr) := ⟨_, rfl, rfl⟩
theorem dk_k60 (pc : Nat) : ∃ K : Nat → Jvm.ClassFile.Decoder Instr, Jvm.ClassFile.Decoder.instr pc = (bind Jvm.ClassFile.Reader.u1 K : Jvm.ClassFile.Decoder Instr) ∧ K 60 = (pure (.istore_n 1) : Jvm.ClassFile.Decoder Instr) := ⟨_, rfl, rfl⟩
theorem dk_k61 (pc : Nat) : ∃ K : Nat → Jvm.ClassFile.Decoder Instr, Jvm.ClassFile.Decoder.instr pc = (bind Jvm.ClassFile.Reader.u1 K : Jvm.ClassFile.Decoder Instr) ∧ K 61 = (pure (.istore_n 2) : Jvm.ClassFile.Decoder Instr) := ⟨_, rfl, rfl⟩
theorem dk_k62 (pc : Nat) : ∃ K : Nat → Jvm.ClassFile.Decoder Instr, Jvm.ClassFile.Decoder.instr pc = (bind Jvm.ClassFile.Reader.u1 K : Jvm.ClassFile.Decoder Instr) ∧ K 62 = (pure (.istore_n 3) : Jvm.ClassFile.Decoder Instr) := ⟨_, rfl, rfl⟩
theorem dk_k76 (pc : Nat) : ∃ K : Nat → Jvm.ClassFile.Decoder Instr, Jvm.ClassFile.Decoder.instr pc = (bind Jvm.ClassFile.Reader.u1 K : Jvm.ClassFile.Decoder Instr) ∧ K 76 = (pure (.astore_n 1) : Jvm.ClassFile.Decoder Instr) := ⟨_, rfl, rfl⟩
theorem dk_k77 (pc : Nat) : ∃ K : Nat → Jvm.ClassFile.Decoder Instr, Jvm.ClassFile.Decoder.instr pc = (bind Jvm.ClassFile.Reader.u1 K : Jvm.ClassFile.Decoder Instr) ∧ K 77 = (pure (.astore_n 2) : Jvm.ClassFile.Decoder Instr) := ⟨_, rfl, rfl⟩
theorem dk_k78 (pc : Nat) : ∃ K : Nat → Jvm.ClassFile.Decoder Instr, Jvm.ClassFile.Decoder.instr pc = (bind Jvm.ClassFile.Reader.u1 K : Jvm.ClassFile.Decoder Instr) ∧ K 78 = (pure (.astore_n 3) : Jvm.ClassFile.Decoder Instr) := ⟨_, rfl, rfl⟩
theorem dk_k79 (pc : Nat) : ∃ K : Nat → Jvm.ClassFile.Decoder Instr, Jvm.ClassFile.Decoder.instr pc = (bind Jvm.ClassFile.Reader.u1 K : Jvm.ClassFile.Decoder Instr) ∧ K 79 = (pure (.iastore) : Jvm.ClassFile.Decoder Instr) := ⟨_, rfl, rfl⟩
theorem dk_k87 (pc : Nat) : ∃ K : Nat → Jvm.ClassFile.Decoder Instr, Jvm.ClassFile.Decoder.instr pc = (bind Jvm.ClassFile.Reader.u1 K : Jvm.ClassFile.Decoder Instr) ∧ K 87 = (pure (.pop) : Jvm.ClassFile.Decoder Instr) := ⟨_, rfl, rfl⟩
theorem dk_k88 (pc : Nat) : ∃ K : Nat → Jvm.ClassFile.Decoder Instr, Jvm.ClassFile.Decoder.instr pc = (bind Jvm.ClassFile.Reader.u1 K : Jvm.ClassFile.Decoder Instr) ∧ K 88 = (pure (.pop2) : Jvm.ClassFile.Decoder Instr) := ⟨_, rfl, rfl⟩
theorem dk_k89 (pc : Nat) : ∃ K : Nat → Jvm.ClassFile.Decoder Instr, Jvm.ClassFile.Decoder.instr pc = (bind Jvm.ClassFile.Reader.u1 K : Jvm.ClassFile.Decoder Instr) ∧ K 89 = (pure (.dup) : Jvm.ClassFile.Decoder Instr) := ⟨_, rfl, rfl⟩
theorem dk_k96 (pc : Nat) : ∃ K : Nat → Jvm.ClassFile.Decoder Instr, Jvm.ClassFile.Decoder.instr pc = (bind Jvm.ClassFile.Reader.u1 K : Jvm.ClassFile.Decoder Instr) ∧ K 96 = (pure (.iadd) : Jvm.ClassFile.Decoder Instr) := ⟨_, rfl, rfl⟩
theorem dk_k100 (pc : Nat) : ∃ K : Nat → Jvm.ClassFile.Decoder Instr, Jvm.ClassFile.Decoder.instr pc = (bind Jvm.ClassFile.Reader.u1 K : Jvm.ClassFile.Decoder Instr) ∧ K 100 = (pure (.isub) : Jvm.ClassFile.Decoder Instr) := ⟨_, rfl, rfl⟩
theorem dk_k121 (pc : Nat) : ∃ K : Nat → Jvm.ClassFile.Decoder Instr, Jvm.ClassFile.Decoder.instr pc = (bind Jvm.ClassFile.Reader.u1 K : Jvm.ClassFile.Decoder Instr) ∧ K 121 = (pure (.lshl) : Jvm.ClassFile.Decoder Instr) := ⟨_, rfl, rfl⟩
theorem dk_k126 (pc : Nat) : ∃ K : Nat → Jvm.ClassFile.Decoder Instr, Jvm.ClassFile.Decoder.instr pc = (bind Jvm.ClassFile.Reader.u1 K : Jvm.ClassFile.Decoder Instr) ∧ K 126 = (pure (.iand) : Jvm.ClassFile.Decoder Instr) := ⟨_, rfl, rfl⟩
theorem dk_k127 (pc : Nat) : ∃ K : Nat → Jvm.ClassFile.Decoder Instr, Jvm.ClassFile.Decoder.instr pc = (bind Jvm.ClassFile.Reader.u1 K : Jvm.ClassFile.Decoder Instr) ∧ K 127 = (pure (.land) : Jvm.ClassFile.Decoder Instr) := ⟨_, rfl, rfl⟩
theorem dk_k129 (pc : Nat) : ∃ K : Nat → Jvm.ClassFile.Decoder Instr, Jvm.ClassFile.Decoder.instr pc = (bind Jvm.ClassFile.Reader.u1 K : Jvm.ClassFile.Decoder Instr) ∧ K 129 = (pure (.lor) : Jvm.ClassFile.Decoder Instr) := ⟨_, rfl, rfl⟩
theorem dk_k133 (pc : Nat) : ∃ K : Nat → Jvm.ClassFile.Decoder Instr, Jvm.ClassFile.Decoder.instr pc = (bind Jvm.ClassFile.Reader.u1 K : Jvm.ClassFile.Decoder Instr) ∧ K 133 = (pure (.i2l) : Jvm.ClassFile.Decoder Instr) := ⟨_, rfl, rfl⟩
theorem dk_k148 (pc : Nat) : ∃ K : Nat → Jvm.ClassFile.Decoder Instr, Jvm.ClassFile.Decoder.instr pc = (bind Jvm.ClassFile.Reader.u1 K : Jvm.ClassFile.Decoder Instr) ∧ K 148 = (pure (.lcmp) : Jvm.ClassFile.Decoder Instr) := ⟨_, rfl, rfl⟩
theorem dk_k153 (pc : Nat) : ∃ K : Nat → Jvm.ClassFile.Decoder Instr, Jvm.ClassFile.Decoder.instr pc = (bind Jvm.ClassFile.Reader.u1 K : Jvm.ClassFile.Decoder Instr) ∧ K 153 = (bind Jvm.ClassFile.Reader.s2 (fun x => pure (.ifCond .eq x)) : Jvm.ClassFile.Decoder Instr) := ⟨_, rfl, rfl⟩
theorem dk_k154 (pc : Nat) : ∃ K : Nat → Jvm.ClassFile.Decoder Instr, Jvm.ClassFile.Decoder.instr pc = (bind Jvm.ClassFile.Reader.u1 K : Jvm.ClassFile.Decoder Instr) ∧ K 154 = (bind Jvm.ClassFile.Reader.s2 (fun x => pure (.ifCond .ne x)) : Jvm.ClassFile.Decoder Instr) := ⟨_, rfl, rfl⟩
theorem dk_k155 (pc : Nat) : ∃ K : Nat → Jvm.ClassFile.Decoder Instr, Jvm.ClassFile.Decoder.instr pc = (bind Jvm.ClassFile.Reader.u1 K : Jvm.ClassFile.Decoder Instr) ∧ K 155 = (bind Jvm.ClassFile.Reader.s2 (fun x => pure (.ifCond .lt x)) : Jvm.ClassFile.Decoder Instr) := ⟨_, rfl, rfl⟩
theorem dk_k156 (pc : Nat) : ∃ K : Nat → Jvm.ClassFile.Decoder Instr, Jvm.ClassFile.Decoder.instr pc = (bind Jvm.ClassFile.Reader.u1 K : Jvm.ClassFile.Decoder Instr) ∧ K 156 = (bind Jvm.ClassFile.Reader.s2 (fun x => pure (.ifCond .ge x)) : Jvm.ClassFile.Decoder Instr) := ⟨_, rfl, rfl⟩
theorem dk_k158 (pc : Nat) : ∃ K : Nat → Jvm.ClassFile.Decoder Instr, Jvm.ClassFile.Decoder.instr pc = (bind Jvm.ClassFile.Reader.u1 K : Jvm.ClassFile.Decoder Instr) ∧ K 158 = (bind Jvm.ClassFile.Reader.s2 (fun x => pure (.ifCond .le x)) : Jvm.ClassFile.Decoder Instr) := ⟨_, rfl, rfl⟩
theorem dk_k159 (pc : Nat) : ∃ K : Nat → Jvm.ClassFile.Decoder Instr, Jvm.ClassFile.Decoder.instr pc = (bind Jvm.ClassFile.Reader.u1 K : Jvm.ClassFile.Decoder Instr) ∧ K 159 = (bind Jvm.ClassFile.Reader.s2 (fun x => pure (.if_icmp .eq x)) : Jvm.ClassFile.Decoder Instr) := ⟨_, rfl, rfl⟩
theorem dk_k160 (pc : Nat) : ∃ K : Nat → Jvm.ClassFile.Decoder Instr, Jvm.ClassFile.Decoder.instr pc = (bind Jvm.ClassFile.Reader.u1 K : Jvm.ClassFile.Decoder Instr) ∧ K 160 = (bind Jvm.ClassFile.Reader.s2 (fun x => pure (.if_icmp .ne x)) : Jvm.ClassFile.Decoder Instr) := ⟨_, rfl, rfl⟩
theorem dk_k161 (pc : Nat) : ∃ K : Nat → Jvm.ClassFile.Decoder Instr, Jvm.ClassFile.Decoder.instr pc = (bind Jvm.ClassFile.Reader.u1 K : Jvm.ClassFile.Decoder Instr) ∧ K 161 = (bind Jvm.ClassFile.Reader.s2 (fun x => pure (.if_icmp .lt x)) : Jvm.ClassFile.Decoder Instr) := ⟨_, rfl, rfl⟩
theorem dk_k162 (pc : Nat) : ∃ K : Nat → Jvm.ClassFile.Decoder Instr, Jvm.ClassFile.Decoder.instr pc = (bind Jvm.ClassFile.Reader.u1 K : Jvm.ClassFile.Decoder Instr) ∧ K 162 = (bind Jvm.ClassFile.Reader.s2 (fun x => pure (.if_icmp .ge x)) : Jvm.ClassFile.Decoder Instr) := ⟨_, rfl, rfl⟩
theorem dk_k163 (pc : Nat) : ∃ K : Nat → Jvm.ClassFile.Decoder Instr, Jvm.ClassFile.Decoder.instr pc = (bind Jvm.ClassFile.Reader.u1 K : Jvm.ClassFile.Decoder Instr) ∧ K 163 = (bind Jvm.ClassFile.Reader.s2 (fun x => pure (.if_icmp .gt x)) : Jvm.ClassFile.Decoder Instr) := ⟨_, rfl, rfl⟩
theorem dk_k164 (pc : Nat) : ∃ K : Nat → Jvm.ClassFile.Decoder Instr, Jvm.ClassFile.Decoder.instr pc = (bind Jvm.ClassFile.Reader.u1 K : Jvm.ClassFile.Decoder Instr) ∧ K 164 = (bind Jvm.ClassFile.Reader.s2 (fun x => pure (.if_icmp .le x)) : Jvm.ClassFile.Decoder Instr) := ⟨_, rfl, rfl⟩
theorem dk_k167 (pc : Nat) : ∃ K : Nat → Jvm.ClassFile.Decoder Instr, Jvm.ClassFile.Decoder.instr pc = (bind Jvm.ClassFile.Reader.u1 K : Jvm.ClassFile.Decoder Instr) ∧ K 167 = (bind Jvm.ClassFile.Reader.s2 (fun x => pure (.goto x)) : Jvm.ClassFile.Decoder Instr) := ⟨_, rfl, rfl⟩
theorem dk_k172 (pc : Nat) : ∃ K : Nat → Jvm.ClassFile.Decoder Instr, Jvm.ClassFile.Decoder.instr pc = (bind Jvm.ClassFile.Reader.u1 K : Jvm.ClassFile.Decoder Instr) ∧ K 172 = (pure (.ireturn) : Jvm.ClassFile.Decoder Instr) := ⟨_, rfl, rfl⟩
theorem dk_k177 (pc : Nat) : ∃ K : Nat → Jvm.ClassFile.Decoder Instr, Jvm.ClassFile.Decoder.instr pc = (bind Jvm.ClassFile.Reader.u1 K : Jvm.ClassFile.Decoder Instr) ∧ K 177 = (pure (.return_) : Jvm.ClassFile.Decoder Instr) := ⟨_, rfl, rfl⟩
theorem dk_k180 (pc : Nat) : ∃ K : Nat → Jvm.ClassFile.Decoder Instr, Jvm.ClassFile.Decoder.instr pc = (bind Jvm.ClassFile.Reader.u1 K : Jvm.ClassFile.Decoder Instr) ∧ K 180 = (bind Jvm.ClassFile.Reader.u2 (fun x => pure (.getfield x)) : Jvm.ClassFile.Decoder Instr) := ⟨_, rfl, rfl⟩
theorem dk_k181 (pc : Nat) : ∃ K : Nat → Jvm.ClassFile.Decoder Instr, Jvm.ClassFile.Decoder.instr pc = (bind Jvm.ClassFile.Reader.u1 K : Jvm.ClassFile.Decoder Instr) ∧ K 181 = (bind Jvm.ClassFile.Reader.u2 (fun x => pure (.putfield x)) : Jvm.ClassFile.Decoder Instr) := ⟨_, rfl, rfl⟩
theorem dk_k182 (pc : Nat) : ∃ K : Nat → Jvm.ClassFile.Decoder Instr, Jvm.ClassFile.Decoder.instr pc = (bind Jvm.ClassFile.Reader.u1 K : Jvm.ClassFile.Decoder Instr) ∧ K 182 = (bind Jvm.ClassFile.Reader.u2 (fun x => pure (.invokevirtual x)) : Jvm.ClassFile.Decoder Instr) := ⟨_, rfl, rfl⟩
theorem dk_k183 (pc : Nat) : ∃ K : Nat → Jvm.ClassFile.Decoder Instr, Jvm.ClassFile.Decoder.instr pc = (bind Jvm.ClassFile.Reader.u1 K : Jvm.ClassFile.Decoder Instr) ∧ K 183 = (bind Jvm.ClassFile.Reader.u2 (fun x => pure (.invokespecial x)) : Jvm.ClassFile.Decoder Instr) := ⟨_, rfl, rfl⟩
theorem dk_k184 (pc : Nat) : ∃ K : Nat → Jvm.ClassFile.Decoder Instr, Jvm.ClassFile.Decoder.instr pc = (bind Jvm.ClassFile.Reader.u1 K : Jvm.ClassFile.Decoder Instr) ∧ K 184 = (bind Jvm.ClassFile.Reader.u2 (fun x => pure (.invokestatic x)) : Jvm.ClassFile.Decoder Instr) := ⟨_, rfl, rfl⟩
theorem dk_k187 (pc : Nat) : ∃ K : Nat → Jvm.ClassFile.Decoder Instr, Jvm.ClassFile.Decoder.instr pc = (bind Jvm.ClassFile.Reader.u1 K : Jvm.ClassFile.Decoder Instr) ∧ K 187 = (bind Jvm.ClassFile.Reader.u2 (fun x => pure (.new x)) : Jvm.ClassFile.Decoder Instr) := ⟨_, rfl, rfl⟩
theorem dk_k190 (pc : Nat) : ∃ K : Nat → Jvm.ClassFile.Decoder Instr, Jvm.ClassFile.Decoder.instr pc = (bind Jvm.ClassFile.Reader.u1 K : Jvm.ClassFile.Decoder Instr) ∧ K 190 = (pure (.arraylength) : Jvm.ClassFile.Decoder Instr) := ⟨_, rfl, rfl⟩
