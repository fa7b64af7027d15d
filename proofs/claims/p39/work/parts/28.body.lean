theorem zb_X11_body_0 : (decode cX11_body 0 = .ok (.iload_n 1, 1)) ∧ (decode cX11_body 1 = .ok (.ifCond .lt 52, 3)) ∧ (decode cX11_body 53 = .ok (.bipush (-2), 2)) ∧ (decode cX11_body 55 = .ok (.ireturn, 1)) ∧ (decode cX11_body 4 = .ok (.iload_n 1, 1)) ∧ (decode cX11_body 5 = .ok (.bipush 6, 2)) ∧ (decode cX11_body 7 = .ok (.if_icmp .ge 46, 3)) ∧ (decode cX11_body 10 = .ok (.iload_n 2, 1)) ∧ (decode cX11_body 11 = .ok (.invokestatic 110, 3)) ∧ (decode cX11_body 14 = .ok (.ifCond .eq 39, 3)) ∧ (decode cX11_body 17 = .ok (.iload_n 3, 1)) := by decide +kernel
theorem dX11_body_0 : decode cX11_body 0 = .ok (.iload_n 1, 1) := zb_X11_body_0.1
theorem dX11_body_1 : decode cX11_body 1 = .ok (.ifCond .lt 52, 3) := zb_X11_body_0.2.1
theorem dX11_body_53 : decode cX11_body 53 = .ok (.bipush (-2), 2) := zb_X11_body_0.2.2.1
theorem dX11_body_55 : decode cX11_body 55 = .ok (.ireturn, 1) := zb_X11_body_0.2.2.2.1
theorem dX11_body_4 : decode cX11_body 4 = .ok (.iload_n 1, 1) := zb_X11_body_0.2.2.2.2.1
theorem dX11_body_5 : decode cX11_body 5 = .ok (.bipush 6, 2) := zb_X11_body_0.2.2.2.2.2.1
theorem dX11_body_7 : decode cX11_body 7 = .ok (.if_icmp .ge 46, 3) := zb_X11_body_0.2.2.2.2.2.2.1
theorem dX11_body_10 : decode cX11_body 10 = .ok (.iload_n 2, 1) := zb_X11_body_0.2.2.2.2.2.2.2.1
theorem dX11_body_11 : decode cX11_body 11 = .ok (.invokestatic 110, 3) := zb_X11_body_0.2.2.2.2.2.2.2.2.1
theorem dX11_body_14 : decode cX11_body 14 = .ok (.ifCond .eq 39, 3) := zb_X11_body_0.2.2.2.2.2.2.2.2.2.1
theorem dX11_body_17 : decode cX11_body 17 = .ok (.iload_n 3, 1) := zb_X11_body_0.2.2.2.2.2.2.2.2.2.2
theorem zb_X11_body_18 : (decode cX11_body 18 = .ok (.ifCond .lt 35, 3)) ∧ (decode cX11_body 21 = .ok (.iload_n 3, 1)) ∧ (decode cX11_body 22 = .ok (.bipush 20, 2)) ∧ (decode cX11_body 24 = .ok (.if_icmp .gt 29, 3)) ∧ (decode cX11_body 27 = .ok (.iload 4, 2)) ∧ (decode cX11_body 29 = .ok (.ifCond .lt 24, 3)) ∧ (decode cX11_body 32 = .ok (.iload 4, 2)) ∧ (decode cX11_body 34 = .ok (.sipush 9999, 3)) ∧ (decode cX11_body 37 = .ok (.if_icmp .gt 16, 3)) ∧ (decode cX11_body 40 = .ok (.iload 5, 2)) ∧ (decode cX11_body 42 = .ok (.ifCond .lt 11, 3)) := by decide +kernel
theorem dX11_body_18 : decode cX11_body 18 = .ok (.ifCond .lt 35, 3) := zb_X11_body_18.1
theorem dX11_body_21 : decode cX11_body 21 = .ok (.iload_n 3, 1) := zb_X11_body_18.2.1
theorem dX11_body_22 : decode cX11_body 22 = .ok (.bipush 20, 2) := zb_X11_body_18.2.2.1
theorem dX11_body_24 : decode cX11_body 24 = .ok (.if_icmp .gt 29, 3) := zb_X11_body_18.2.2.2.1
theorem dX11_body_27 : decode cX11_body 27 = .ok (.iload 4, 2) := zb_X11_body_18.2.2.2.2.1
theorem dX11_body_29 : decode cX11_body 29 = .ok (.ifCond .lt 24, 3) := zb_X11_body_18.2.2.2.2.2.1
theorem dX11_body_32 : decode cX11_body 32 = .ok (.iload 4, 2) := zb_X11_body_18.2.2.2.2.2.2.1
theorem dX11_body_34 : decode cX11_body 34 = .ok (.sipush 9999, 3) := zb_X11_body_18.2.2.2.2.2.2.2.1
theorem dX11_body_37 : decode cX11_body 37 = .ok (.if_icmp .gt 16, 3) := zb_X11_body_18.2.2.2.2.2.2.2.2.1
theorem dX11_body_40 : decode cX11_body 40 = .ok (.iload 5, 2) := zb_X11_body_18.2.2.2.2.2.2.2.2.2.1
theorem dX11_body_42 : decode cX11_body 42 = .ok (.ifCond .lt 11, 3) := zb_X11_body_18.2.2.2.2.2.2.2.2.2.2
theorem zb_X11_body_45 : (decode cX11_body 45 = .ok (.iload 5, 2)) ∧ (decode cX11_body 47 = .ok (.sipush 999, 3)) ∧ (decode cX11_body 50 = .ok (.if_icmp .le 6, 3)) ∧ (decode cX11_body 56 = .ok (.aload_n 0, 1)) ∧ (decode cX11_body 57 = .ok (.getfield 75, 3)) ∧ (decode cX11_body 60 = .ok (.bipush 12, 2)) ∧ (decode cX11_body 62 = .ok (.if_icmp .lt 6, 3)) ∧ (decode cX11_body 68 = .ok (.aload_n 0, 1)) ∧ (decode cX11_body 69 = .ok (.getfield 18, 3)) ∧ (decode cX11_body 72 = .ok (.aload_n 0, 1)) ∧ (decode cX11_body 73 = .ok (.getfield 75, 3)) := by decide +kernel
theorem dX11_body_45 : decode cX11_body 45 = .ok (.iload 5, 2) := zb_X11_body_45.1
theorem dX11_body_47 : decode cX11_body 47 = .ok (.sipush 999, 3) := zb_X11_body_45.2.1
theorem dX11_body_50 : decode cX11_body 50 = .ok (.if_icmp .le 6, 3) := zb_X11_body_45.2.2.1
theorem dX11_body_56 : decode cX11_body 56 = .ok (.aload_n 0, 1) := zb_X11_body_45.2.2.2.1
theorem dX11_body_57 : decode cX11_body 57 = .ok (.getfield 75, 3) := zb_X11_body_45.2.2.2.2.1
theorem dX11_body_60 : decode cX11_body 60 = .ok (.bipush 12, 2) := zb_X11_body_45.2.2.2.2.2.1
theorem dX11_body_62 : decode cX11_body 62 = .ok (.if_icmp .lt 6, 3) := zb_X11_body_45.2.2.2.2.2.2.1
theorem dX11_body_68 : decode cX11_body 68 = .ok (.aload_n 0, 1) := zb_X11_body_45.2.2.2.2.2.2.2.1
theorem dX11_body_69 : decode cX11_body 69 = .ok (.getfield 18, 3) := zb_X11_body_45.2.2.2.2.2.2.2.2.1
theorem dX11_body_72 : decode cX11_body 72 = .ok (.aload_n 0, 1) := zb_X11_body_45.2.2.2.2.2.2.2.2.2.1
theorem dX11_body_73 : decode cX11_body 73 = .ok (.getfield 75, 3) := zb_X11_body_45.2.2.2.2.2.2.2.2.2.2
theorem zb_X11_body_76 : (decode cX11_body 76 = .ok (.new 16, 3)) ∧ (decode cX11_body 79 = .ok (.dup, 1)) ∧ (decode cX11_body 80 = .ok (.iload_n 1, 1)) ∧ (decode cX11_body 81 = .ok (.iload_n 2, 1)) ∧ (decode cX11_body 82 = .ok (.aload_n 0, 1)) ∧ (decode cX11_body 83 = .ok (.getfield 71, 3)) ∧ (decode cX11_body 86 = .ok (.iload_n 3, 1)) ∧ (decode cX11_body 87 = .ok (.iload 4, 2)) ∧ (decode cX11_body 89 = .ok (.iload 5, 2)) ∧ (decode cX11_body 91 = .ok (.invokespecial 113, 3)) ∧ (decode cX11_body 94 = .ok (.aastore, 1)) := by decide +kernel
theorem dX11_body_76 : decode cX11_body 76 = .ok (.new 16, 3) := zb_X11_body_76.1
theorem dX11_body_79 : decode cX11_body 79 = .ok (.dup, 1) := zb_X11_body_76.2.1
theorem dX11_body_80 : decode cX11_body 80 = .ok (.iload_n 1, 1) := zb_X11_body_76.2.2.1
theorem dX11_body_81 : decode cX11_body 81 = .ok (.iload_n 2, 1) := zb_X11_body_76.2.2.2.1
theorem dX11_body_82 : decode cX11_body 82 = .ok (.aload_n 0, 1) := zb_X11_body_76.2.2.2.2.1
theorem dX11_body_83 : decode cX11_body 83 = .ok (.getfield 71, 3) := zb_X11_body_76.2.2.2.2.2.1
theorem dX11_body_86 : decode cX11_body 86 = .ok (.iload_n 3, 1) := zb_X11_body_76.2.2.2.2.2.2.1
theorem dX11_body_87 : decode cX11_body 87 = .ok (.iload 4, 2) := zb_X11_body_76.2.2.2.2.2.2.2.1
theorem dX11_body_89 : decode cX11_body 89 = .ok (.iload 5, 2) := zb_X11_body_76.2.2.2.2.2.2.2.2.1
theorem dX11_body_91 : decode cX11_body 91 = .ok (.invokespecial 113, 3) := zb_X11_body_76.2.2.2.2.2.2.2.2.2.1
theorem dX11_body_94 : decode cX11_body 94 = .ok (.aastore, 1) := zb_X11_body_76.2.2.2.2.2.2.2.2.2.2
theorem zb_X11_body_95 : (decode cX11_body 95 = .ok (.aload_n 0, 1)) ∧ (decode cX11_body 96 = .ok (.dup, 1)) ∧ (decode cX11_body 97 = .ok (.getfield 75, 3)) ∧ (decode cX11_body 100 = .ok (.dup_x1, 1)) ∧ (decode cX11_body 101 = .ok (.iconst 1, 1)) ∧ (decode cX11_body 102 = .ok (.iadd, 1)) ∧ (decode cX11_body 103 = .ok (.putfield 75, 3)) ∧ (decode cX11_body 106 = .ok (.ireturn, 1)) ∧ (decode cX11_body 65 = .ok (.bipush (-4), 2)) ∧ (decode cX11_body 67 = .ok (.ireturn, 1)) := by decide +kernel
theorem dX11_body_95 : decode cX11_body 95 = .ok (.aload_n 0, 1) := zb_X11_body_95.1
theorem dX11_body_96 : decode cX11_body 96 = .ok (.dup, 1) := zb_X11_body_95.2.1
theorem dX11_body_97 : decode cX11_body 97 = .ok (.getfield 75, 3) := zb_X11_body_95.2.2.1
theorem dX11_body_100 : decode cX11_body 100 = .ok (.dup_x1, 1) := zb_X11_body_95.2.2.2.1
theorem dX11_body_101 : decode cX11_body 101 = .ok (.iconst 1, 1) := zb_X11_body_95.2.2.2.2.1
theorem dX11_body_102 : decode cX11_body 102 = .ok (.iadd, 1) := zb_X11_body_95.2.2.2.2.2.1
theorem dX11_body_103 : decode cX11_body 103 = .ok (.putfield 75, 3) := zb_X11_body_95.2.2.2.2.2.2.1
theorem dX11_body_106 : decode cX11_body 106 = .ok (.ireturn, 1) := zb_X11_body_95.2.2.2.2.2.2.2.1
theorem dX11_body_65 : decode cX11_body 65 = .ok (.bipush (-4), 2) := zb_X11_body_95.2.2.2.2.2.2.2.2.1
theorem dX11_body_67 : decode cX11_body 67 = .ok (.ireturn, 1) := zb_X11_body_95.2.2.2.2.2.2.2.2.2
theorem gX11_body_X11_isCell : GoodIn wsX11_body (va_wsS RX11 110 yX11_isCell wsX11_isCell) := ru_gG (ru_gS tw_2_195 tw_2_196 tw_1_1 mT_X11_isCell)
theorem gX11_body_X0_init : GoodIn wsX11_body (wsX0_init) := ru_gG mT_X0_init
abbrev fm_BU : Type := Nat × (Nat → Nat → Nat) × (Nat → Nat → ClassId) × fm_M
def fm_AA (nb : Nat) (ad : Nat → Nat → Nat) (sz : Nat) : Nat → Prop := fun q => fm_A nb ad q ∨ sz ≤ q
def fm_grown (nb : Nat) (ad : Nat → Nat → Nat) (M : fm_M) (sz : Nat) (u : fm_BU) : Prop := fm_I u.1 u.2.1 u.2.2.2 ∧ fm_inj u.2.1 u.1 ∧ (∀ a k, k < fm_ct nb a → u.2.1 a k = ad a k) ∧ (∀ q, fm_A u.1 u.2.1 q → fm_AA nb ad sz q) ∧ (∀ a k j, ¬ (k = nb ∧ 50 ≤ a ∧ a ≤ 56) → fm_cd a j ∉ [10, 4000] → u.2.2.2.1 a k j = M.1 a k j ∧ u.2.2.2.2.1 a k j = M.2.1 a k j ∧ u.2.2.2.2.2 a k j = M.2.2 a k j) ∧ nb ≤ u.1
theorem fm_grown.rf {nb : Nat} {ad : Nat → Nat → Nat} {C : Nat → Nat → ClassId} {M : fm_M} {sz : Nat} (hI : fm_I nb ad M) (hj : fm_inj ad nb) : fm_grown nb ad M sz (nb, ad, C, M) := ⟨hI, hj, fun _ _ _ => rfl, fun q h => Or.inl h, fun _ _ _ _ _ => ⟨rfl, rfl, rfl⟩, Nat.le_refl _⟩
section
variable {p : Program} {l : Launch} {e : Env} {R : Room} {s : State} {m : MethodId} {args : Array Value} {below : List Frame} {meth : Method} {c : Code} {H : Heap} {locs : List Loc} {cells slots : Nat} {Q : State → Prop} {cc : ByteArray} {pc : Nat} {ls : Array Slot} {rest : List Value}
variable {D : va_G} {ad : Nat → Nat → Nat} {C : Nat → Nat → ClassId} {nb : Nat} {M M0 : fm_M} {A : Nat → Prop} {H0 : Heap} {es : List Nat}
theorem fm_newo (hexec : p.tables.exec = Jvm.exec) (hb : c.code = cc) {own E : String} {T : u_T} {N ci index : Nat} {Ts : List Cond} (hts : ∀ w ∈ Ts, w.before args s = true) (hin : ∀ w ∈ u_ws E T N, w ∈ Ts) (ty : Nat → FieldType) (hty : ∀ k, k < N → parseFieldDescriptor (T k).2.2.1 = some (ty k)) (hown : s.vm.findClass own = some m.cls) (hcl : (Cond.classLink own index E).before args s = true) (hinst : (Cond.instantiable E N).before args s = true) (hini : (Cond.initialized E).before args s = true) (hK : va_K D vwCl [] s) (hc : vwCl[ci]? = some (E, T, N)) {fs : List Value} (hfs : ∀ j, j < N → defaultValue (ty j) = vp_V fs j) (hcells : cells + 1 ≤ R.cells) (hslots : slots + N ≤ R.slots) (hdg : decode cc pc = .ok (.new index, 3))
    (kk : ∀ (q : Nat) (H1 : Heap), q = H.size → va_at D vwCl (q, .inr (ci, fs)) H1 → H1.size = H.size + 1 → (∀ q, q < H.size → H1[q]? = H[q]?) → W p l e R s m args below meth c H1 locs (cells + 1) (slots + N) Q (F0 m (pc + 3) ls (.ref q :: rest))) : W p l e R s m args below meth c H locs cells slots Q (F0 m pc ls rest) := by
  have hKn := hK.1 ci _ hc
  refine W.newcK hexec hb hown hcl hinst hini rfl hdg hcells hslots hKn.2.1 rfl fun H1 kC hkC e1 z1 o1 => ?_
  exact kk H.size H1 rfl ⟨_, hc, (u_born ty hts hin hKn hkC e1 hty).to hfs⟩ z1 o1
theorem fm_aasB (hexec : p.tables.exec = Jvm.exec) (hb : c.code = cc) (hj : fm_inj ad nb) (hK : fm_K D C nb s) (hw : fm_at D ad C nb M H) (hA : ∀ q, fm_A nb ad q → A q) (hS : va_S A H0 H locs) {i : Int32} (hi : 0 ≤ i.toInt ∧ i.toInt < 12) {k : Nat} (hk : k < nb) (hdg : decode cc pc = .ok (.aastore, 1))
    (kk : ∀ (H1 : Heap) (locs1 : List Loc), fm_at D ad C nb (fm_wG M 4 0 i.toNatClampNeg (some (ad 50 k))) H1 → va_S A H0 H1 locs1 → W p l e R s m args below meth c H1 locs1 cells slots Q (F0 m (pc + 1) ls rest)) : W p l e R s m args below meth c H locs cells slots Q (F0 m pc ls (.ref (ad 50 k) :: .int i :: .ref (ad 4 0) :: rest)) := by
  have hin : vp_in i 12 := fm_in hi
  have hlt : i.toNatClampNeg < 12 := Nat.not_le.mp fun q => hin (Or.inr q)
  have h0 : ¬ i < 0 := fun q => hin (Or.inl q)
  have hv := hw 50 k hk
  rw [sh_50] at hv
  obtain ⟨r', hr', cellV, g1, g2, g3, -⟩ := hv
  have hcls := (hK.1.1 0 (RX0, TX0, 15) rfl).2
  obtain ⟨kA, comp, k1, k2, k3, -⟩ := (hK.2 4 0 kl_4 (by rw [sh_4]; exact (by decide : (2 : Nat) < 3))).2
  have hcomp : comp = D.1 0 := Option.some.inj (k3.symm.trans hcls.1)
  subst hcomp
  obtain ⟨kC, hkC, -⟩ := hcls.2
  have hc4 := hw 4 0 kl_4
  rw [sh_4] at hc4
  refine W.aast hexec hb (cell := vp_cell (C 4 0) (12, .inr (.inr (.inr (.inr (M.2.2 4 0)))))) hc4 (fun q h => by cases h) (fun h => by cases h) k1 k2 rfl hkC ⟨h0, by show _ < (arrV _ _ _).slots.size; rw [arrV_size]; exact hlt⟩ g1 (fun q h => by rw [g3] at h; cases h) (by rw [g2]; exact hkC) (by rw [g2]; exact va_assign hcls) rfl rfl hdg fun H1 e1 z oq => ?_
  refine kk H1 _ (hw.set hj kl_4 oq ?_ (fun b j hbj => ⟨rfl, rfl, fm_wG_ne hbj⟩)) (hS.put z oq (hA _ ⟨4, 0, kl_4, rfl⟩))
  rw [sh_4]
  show H1[ad 4 0]? = some (vp_cell _ _)
  rw [e1]
  rw [vp_cell_q, vp_cell_q, arrV_store]
  congr 2
  funext q
  by_cases hq : q = i.toNatClampNeg
  · subst hq
    rw [fm_wG_at]
    simp [updV, va_rf]
  · rw [fm_wG_nj (fun z => hq z.2.2)]
    simp [updV, hq]
theorem fm_putI0 (hexec : p.tables.exec = Jvm.exec) (hb : c.code = cc) {own ref E : String} {T : u_T} {N ci index : Nat} {Ts : List Cond} (hts : ∀ w ∈ Ts, w.before args s = true) (hin : ∀ w ∈ u_ws E T N, w ∈ Ts) (ty0 : Nat → FieldType) (hty : ∀ k, k < N → parseFieldDescriptor (T k).2.2.1 = some (ty0 k)) (hnm : ∀ a, a < N → ∀ b, b < N → a ≠ b → (T a).2.1 ≠ (T b).2.1) (hown : s.vm.findClass own = some m.cls) (hK : va_K D vwCl [] s) (hjn : fm_inj ad nb) (hw : fm_at D ad C nb M H) (hA : ∀ q, fm_A nb ad q → A q) (hS : va_S A H0 H locs) {a k j : Nat} {fl : List (Nat × Nat)} (hk : k < fm_ct nb a) (hsh : fm_sh a = (3, ci, fl)) (hord : ∀ i, i < fl.length → (fl.getD i (0, 0)).1 = i) (hcl : vwCl[ci]? = some (E, T, N)) (hjN : j < N) (hfl : fl[j]? = some (j, 0)) (hlink : (Cond.fieldLink own index ref (T j).2.1 (T j).2.2.1).before args s = true) (hsame : ∀ x, s.fieldFound? (T j).1 (T j).2.1 (T j).2.2.1 = some x → s.fieldFound? ref (T j).2.1 (T j).2.2.1 = some x) (hfin : (T j).2.2.2 = false) (hd : parseFieldDescriptor (T j).2.2.1 = some .int) {x : Int32} (hdg : decode cc pc = .ok (.putfield index, 3))
    (kk : ∀ (H1 : Heap) (locs1 : List Loc), fm_at D ad C nb (fm_wI M a k j x) H1 → va_S A H0 H1 locs1 → W p l e R s m args below meth c H1 locs1 cells slots Q (F0 m (pc + 3) ls rest)) : W p l e R s m args below meth c H locs cells slots Q (F0 m pc ls (.int x :: .ref (ad a k) :: rest)) := by
  have h0 := hw a k hk
  rw [hsh] at h0
  refine fm_put0 (ci := ci) (fs := fl.map (fm_fv (M.1 a k) (M.2.1 a k) (M.2.2 a k))) hexec hb hts hin ty0 hty hnm hown hK h0 hcl hjN hlink hsame hfin hd rfl rfl (by rw [List.length_map]; exact (List.getElem?_eq_some_iff.mp hfl).1) hdg fun H1 q g1 g2 g3 => ?_
  refine kk H1 _ (hw.set hjn hk g3 ?_ (fun b i hbi => ⟨fm_wI_ne hbi, rfl, rfl⟩)) (hS.put g2 g3 (hA _ ⟨a, k, hk, rfl⟩))
  rw [hsh]
  rw [fm_setl (V1 := (fm_wI M a k j x).1 a k) (L1 := M.2.1 a k) (G1 := M.2.2 a k) hord hfl (by show Value.int _ = _; rw [fm_wI_at]) (fun i hi => ⟨fm_wI_nj (fun z => hi z.2.2), rfl, rfl⟩)] at g1
  exact g1
end
/-- the memory of a new body -/
def rt_bV (k c b n f u s : Int32) (a j : Nat) : Int32 := if a = 50 then (if j = 0 then k else if j = 1 then c else if j = 2 then b else if j = 3 then n else if j = 4 then u else if j = 5 then f else if j = 14 then s else 0) else 0
def rt_bG (ab : Nat → Nat) (a j : Nat) : Option Nat := if a = 50 then (if j = 6 ∨ j = 7 ∨ j = 8 ∨ j = 10 ∨ j = 11 ∨ j = 13 then some (ab j) else none) else none
def rt_bn (q : Nat) (ab : Nat → Nat) (a : Nat) : Nat := if a = 50 then q else if a = 51 then ab 6 else if a = 52 then ab 7 else if a = 53 then ab 8 else if a = 54 then ab 10 else if a = 55 then ab 11 else ab 13
def rt_bc2 (cb : Nat → ClassId) (a : Nat) : ClassId := if a = 51 then cb 6 else if a = 52 then cb 7 else if a = 53 then cb 8 else if a = 54 then cb 10 else if a = 55 then cb 11 else cb 13
theorem rt_bI {nb : Nat} {ad : Nat → Nat → Nat} {M : fm_M} (hI : fm_I nb ad M) (hn : nb < 12) {q : Nat} {ab : Nat → Nat} {k c b n f u s x y : Int32} (hk : 0 ≤ k.toInt ∧ k.toInt ≤ 5) (hc : 0 ≤ c.toInt ∧ c.toInt ≤ 63) (hb : 0 ≤ b.toInt ∧ b.toInt ≤ 239) (hm : 0 ≤ n.toInt ∧ n.toInt ≤ 20) (hf : 0 ≤ f.toInt ∧ f.toInt ≤ 9999) (hu : 0 ≤ u.toInt ∧ u.toInt ≤ 999) (hs : s.toInt = b.toInt - 1) (hx : x.toInt = nb) (hy : y.toInt = nb + 1) :
    fm_I (nb + 1) (fm_ga ad nb (rt_bn q ab)) (fm_wI (fm_wG (fm_ga M.1 nb (rt_bV k c b n f u s), fm_ga M.2.1 nb (fun _ _ => 0), fm_ga M.2.2 nb (rt_bG ab)) 4 0 x.toNatClampNeg (some (fm_ga ad nb (rt_bn q ab) 50 nb))) 0 0 10 y) := by
  obtain ⟨h1, h2, h3, h4, h5, h6, h7, h8⟩ := hI
  have hxn : x.toNatClampNeg = nb := by rw [Int32.toNatClampNeg]; omega
  refine ⟨fun a i j => ?_, fun a i j ht hi => ?_, fun j => ?_, fun j hj => ?_, fun j hj => ?_, fun j hj => ?_, ?_, by omega⟩
  · by_cases z : a = 0 ∧ i = 0 ∧ j = 10
    · obtain ⟨rfl, rfl, rfl⟩ := z
      rw [fm_wI_at, bd_0_10]
      show 0 ≤ y.toInt ∧ y.toInt ≤ 12
      omega
    · rw [fm_wI_nj z]
      show (fm_b a j).1 ≤ (fm_ga M.1 nb (rt_bV k c b n f u s) a i j).toInt ∧ (fm_ga M.1 nb (rt_bV k c b n f u s) a i j).toInt ≤ (fm_b a j).2
      by_cases g : i = nb ∧ 50 ≤ a ∧ a ≤ 56
      · rw [fm_ga_in g]
        unfold rt_bV
        by_cases g0 : a = 50
        · subst g0
          rw [if_pos rfl]
          split
          · rename_i e; subst e; rw [bd_50_0]; exact hk
          · split
            · rename_i e; subst e; rw [bd_50_1]; exact hc
            · split
              · rename_i e; subst e; rw [bd_50_2]; exact hb
              · split
                · rename_i e; subst e; rw [bd_50_3]; exact hm
                · split
                  · rename_i e; subst e; rw [bd_50_4]; exact hu
                  · split
                    · rename_i e; subst e; rw [bd_50_5]; exact hf
                    · split
                      · rename_i e; subst e; rw [bd_50_14]; show -1 ≤ s.toInt ∧ s.toInt ≤ 239; omega
                      · exact fm_b0 50 j
        · rw [if_neg g0]
          exact fm_b0 a j
      · rw [fm_ga_out g]
        exact h1 a i j
  · show (fm_wG _ 4 0 x.toNatClampNeg _).2.2 a i j = _
    have ha4 : a ≠ 4 := fun z => ht (by rw [z]; rfl)
    rw [fm_wG_nj (fun z => ha4 z.1)]
    show fm_ga M.2.2 nb (rt_bG ab) a i j = _
    by_cases g : i = nb ∧ 50 ≤ a ∧ a ≤ 56
    · rw [fm_ga_in g]
      obtain ⟨rfl, g1, g2⟩ := g
      have ha : a = 50 := by
        rcases (show a = 50 ∨ a = 51 ∨ a = 52 ∨ a = 53 ∨ a = 54 ∨ a = 55 ∨ a = 56 by omega) with rfl | rfl | rfl | rfl | rfl | rfl | rfl
        · rfl
        all_goals exact absurd rfl ht
      subst ha
      have hj : j < 15 := by
        apply Nat.lt_of_not_le
        intro hj
        apply ht
        show ([0, 0, 0, 0, 0, 0, 51, 52, 53, 0, 54, 55, 0, 56, 0] : List Nat).getD j 0 = 0
        rw [List.getD_eq_getElem?_getD, List.getElem?_eq_none (by simpa using hj)]
        rfl
      rcases (show j = 0 ∨ j = 1 ∨ j = 2 ∨ j = 3 ∨ j = 4 ∨ j = 5 ∨ j = 6 ∨ j = 7 ∨ j = 8 ∨ j = 9 ∨ j = 10 ∨ j = 11 ∨ j = 12 ∨ j = 13 ∨ j = 14 by omega) with rfl | rfl | rfl | rfl | rfl | rfl | rfl | rfl | rfl | rfl | rfl | rfl | rfl | rfl | rfl
      all_goals first | exact absurd rfl ht | (rw [fm_ga_in (by exact ⟨rfl, by decide, by decide⟩)]; rfl)
    · rw [fm_ga_out g, h2 a i j ht (fm_ct_old hi g)]
      congr 1
      refine (fm_ga_out (fun z => g ⟨z.1, ?_⟩)).symm
      -- a kind whose target is a body's part is a body
      have key : ∀ a < 179, ∀ j < 79, 50 ≤ fm_tg a j ∧ fm_tg a j ≤ 56 → a = 50 := by decide +kernel
      have hlt : a < 179 := by
        apply Nat.lt_of_not_le
        intro hh
        apply ht
        unfold fm_tg
        have h179 : fm_tgs.length ≤ 179 := by decide +kernel
        rw [show fm_tgs.getD a [] = [] by rw [List.getD_eq_getElem?_getD, List.getElem?_eq_none (Nat.le_trans h179 hh)]; rfl]
        rfl
      have hjl : j < 79 := by
        apply Nat.lt_of_not_le
        intro hh
        apply ht
        unfold fm_tg
        have hlen : ∀ l ∈ fm_tgs, l.length ≤ 79 := by decide +kernel
        rw [List.getD_eq_getElem?_getD, List.getElem?_eq_none]
        · rfl
        · refine Nat.le_trans ?_ hh
          rw [List.getD_eq_getElem?_getD]
          cases hq : fm_tgs[a]? with
          | none => exact Nat.zero_le _
          | some l => exact hlen l (List.mem_of_getElem? hq)
      rw [key a hlt j hjl z.2]
      exact ⟨by decide, by decide⟩
  · show (fm_wG _ 4 0 x.toNatClampNeg _).2.2 4 0 j = _
    by_cases z : j = nb
    · subst z
      rw [hxn, fm_wG_at, if_pos (Nat.lt_succ_self _)]
    · rw [fm_wG_nj (fun w => z (by rw [w.2.2, hxn]))]
      show fm_ga M.2.2 nb (rt_bG ab) 4 0 j = _
      rw [fm_ga_out (fun w => absurd w.2.1 (by decide)), h3 j]
      by_cases w : j < nb
      · rw [if_pos w, if_pos (by omega), fm_ga_out (fun v => z v.1)]
      · rw [if_neg w, if_neg (by omega)]
  · show fm_ga M.2.2 nb (rt_bG ab) 29 0 j = _
    rw [fm_ga_out (fun w => absurd w.2.1 (by decide)), h4 j hj, fm_ga_out (fun w => absurd w.2.1 (by decide))]
  · show fm_ga M.2.2 nb (rt_bG ab) 43 0 j = _
    rw [fm_ga_out (fun w => absurd w.2.1 (by decide)), h5 j hj, fm_ga_out (fun w => absurd w.2.1 (by decide))]
  · show fm_ga M.2.2 nb (rt_bG ab) 45 0 j = _
    rw [fm_ga_out (fun w => absurd w.2.1 (by decide)), h6 j hj, fm_ga_out (fun w => absurd w.2.1 (by decide))]
  · rw [fm_wI_at]
    omega
set_option maxHeartbeats 2000000 in
set_option maxRecDepth 20000 in
theorem fc_X11_body (l : Launch) (D : va_G) (ad : Nat → Nat → Nat) (C : Nat → Nat → ClassId) (nb : Nat) (M : fm_M) (hI : fm_I nb ad M) (sz : Nat) (p0 p1 p2 p3 p4 : Int32) : Met l yX11_body wsX11_body ({ frames := 2, cells := 7, slots := 387, locals := 38 }) (va_Pc [.ref (ad 0 0), .int p0, .int p1, .int p2, .int p3, .int p4] (fun U => U.heap.size = sz ∧ fm_P D ad C nb M U)) (va_Qi (fun (r : Int32) (u : fm_BU) => fm_grown nb ad M sz u ∧ ((¬ (0 ≤ p0.toInt ∧ p0.toInt ≤ 5 ∧ 0 ≤ p1.toInt ∧ p1.toInt ≤ 63 ∧ 0 ≤ p2.toInt ∧ p2.toInt ≤ 20 ∧ 0 ≤ p3.toInt ∧ p3.toInt ≤ 9999 ∧ 0 ≤ p4.toInt ∧ p4.toInt ≤ 999) ∧ r.toInt = -2 ∧ u.1 = nb ∧ u.2.2.2 = M) ∨ ((0 ≤ p0.toInt ∧ p0.toInt ≤ 5 ∧ 0 ≤ p1.toInt ∧ p1.toInt ≤ 63 ∧ 0 ≤ p2.toInt ∧ p2.toInt ≤ 20 ∧ 0 ≤ p3.toInt ∧ p3.toInt ≤ 9999 ∧ 0 ≤ p4.toInt ∧ p4.toInt ≤ 999) ∧ 12 ≤ nb ∧ r.toInt = -4 ∧ u.1 = nb ∧ u.2.2.2 = M) ∨ ((0 ≤ p0.toInt ∧ p0.toInt ≤ 5 ∧ 0 ≤ p1.toInt ∧ p1.toInt ≤ 63 ∧ 0 ≤ p2.toInt ∧ p2.toInt ≤ 20 ∧ 0 ≤ p3.toInt ∧ p3.toInt ≤ 9999 ∧ 0 ≤ p4.toInt ∧ p4.toInt ≤ 999) ∧ nb < 12 ∧ r.toInt = nb ∧ u.1 = nb + 1 ∧ (u.2.2.2.1 0 0 10).toInt = nb + 1 ∧ u.2.2.2.1 50 nb 0 = p0 ∧ u.2.2.2.1 50 nb 1 = p1 ∧ u.2.2.2.1 50 nb 2 = M.1 0 0 9 ∧ u.2.2.2.1 50 nb 3 = p2 ∧ u.2.2.2.1 50 nb 4 = p4 ∧ u.2.2.2.1 50 nb 5 = p3 ∧ u.2.2.2.1 50 nb 12 = 0))) (fun u t => fm_at D u.2.1 u.2.2.1 u.1 u.2.2.2 t.heap ∧ fm_K D u.2.2.1 u.1 t) (fm_AA nb ad sz)) 7 387 (fm_AA nb ad sz) := by
  refine Met.ofW (cc := cX11_body) (maxL := 6) (ret := (some .int)) (by decide) rfl ?_
  intro p e s m args below meth c s₁ B hml hv
  obtain ⟨rfl, hsz, hw, hc⟩ := hv
  subst hsz
  have hx := B.exec
  have hb := B.bytes
  have hr := B.returns
  have hts := atoms_spec (ws := wsX11_body) B.pre
  have hown : s.vm.findClass RX11 = some m.cls := findClass_of_methodNamed B.named
  have hinX0 : ∀ w ∈ u_ws RX0 TX0 15, w ∈ wsX11_body := fun w h => List.mem_cons_of_mem _ (iT_X0 w h)
  have hinX11 : ∀ w ∈ u_ws RX11 TX11 13, w ∈ wsX11_body := fun w h => List.mem_cons_of_mem _ (iT_X11 w h)
  have hS : va_S (fm_AA nb ad s.heap.size) s.heap s.heap [] := va_S.rf
  have hl := lv_entry ([.ref (ad 0 0), .int p0, .int p1, .int p2, .int p3, .int p4]) (n := 6) (Nat.le_of_ble_eq_true rfl)
  rw [lg_entry_eq]
  generalize (lg_sl ([.ref (ad 0 0), .int p0, .int p1, .int p2, .int p3, .int p4]) ++ List.replicate (6 - (lg_sl ([.ref (ad 0 0), .int p0, .int p1, .int p2, .int p3, .int p4])).length) Slot.unset).toArray = ls at hl ⊢
  have hl : lv_has ls 6 [(0, .ref (ad 0 0)), (1, .int p0), (2, .int p1), (3, .int p2), (4, .int p3), (5, .int p4)] := hl
  refine lv_iload_n hx hb dX11_body_0 rfl (lv_at hl 1 rfl) ?_
  refine fx_if_lt (tgt := 53) hx hb dX11_body_1 (by decide) rfl (fun c1 => ?_) (fun c1 => ?_)
  · refine lv_bipush (v := (-2)) hx hb dX11_body_53 (by decide) ?_
    refine W.widen (k := 7) (n := 387) (by decide) (by decide) ?_
    have hN9 := hI.2.2.2.2.2.2.1
    exact W.iret (v := (-2)) hx hb hr (fun t ht hW => ⟨⟨(-2), (nb, ad, C, M), rfl, ⟨fm_grown.rf hI hc.1, Or.inl ⟨by omega, zk_m2, rfl, rfl⟩⟩, by show fm_at D ad C nb M t.heap; rw [ht]; exact hw, hc.2.1.moved hW.alike⟩, hS.F ht⟩) hS.2.2 dX11_body_55
  · refine lv_iload_n hx hb dX11_body_4 rfl (lv_at hl 1 rfl) ?_
    refine lv_bipush (v := 6) hx hb dX11_body_5 (by decide) ?_
    refine fx_icmp_ge (tgt := 53) hx hb dX11_body_7 (by decide) rfl zk_6 (fun c2 => ?_) (fun c2 => ?_)
    · refine lv_bipush (v := (-2)) hx hb dX11_body_53 (by decide) ?_
      refine W.widen (k := 7) (n := 387) (by decide) (by decide) ?_
      have hN9 := hI.2.2.2.2.2.2.1
      exact W.iret (v := (-2)) hx hb hr (fun t ht hW => ⟨⟨(-2), (nb, ad, C, M), rfl, ⟨fm_grown.rf hI hc.1, Or.inl ⟨by omega, zk_m2, rfl, rfl⟩⟩, by show fm_at D ad C nb M t.heap; rw [ht]; exact hw, hc.2.1.moved hW.alike⟩, hS.F ht⟩) hS.2.2 dX11_body_55
    · refine lv_iload_n hx hb dX11_body_10 rfl (lv_at hl 2 rfl) ?_
      refine vp_callSi (va_Run.run (va_runS (As := [.int p1]) (rest := []) ⟨hx, hb, hml, hown, hts⟩ (fc_X11_isCell l p1) (va_cwS 1 hts gX11_body_X11_isCell rfl rfl rfl (by decide +kernel) ⟨Nat.le_of_ble_eq_true rfl, Nat.le_of_ble_eq_true rfl⟩) ⟨fun a U g mk q => q, fun U hU hW => ⟨rfl, trivial⟩⟩ rfl rfl hl.1 rfl (lv_room (Nat.le_of_ble_eq_true rfl)) dX11_body_11 ⟨by decide +kernel, by decide +kernel⟩)) (fun r3 hr3 => ?_)
      rcases hr3 with ⟨rfl, c4⟩ | ⟨rfl, c4⟩
      · refine fx_if_eq (tgt := 53) hx hb dX11_body_14 (by decide) zk_1 (fun c5 => by exfalso; omega) (fun c5 => ?_)
        refine lv_iload_n hx hb dX11_body_17 rfl (lv_at hl 3 rfl) ?_
        refine fx_if_lt (tgt := 53) hx hb dX11_body_18 (by decide) rfl (fun c6 => ?_) (fun c6 => ?_)
        · refine lv_bipush (v := (-2)) hx hb dX11_body_53 (by decide) ?_
          refine W.widen (k := 7) (n := 387) (by decide) (by decide) ?_
          have hN9 := hI.2.2.2.2.2.2.1
          exact W.iret (v := (-2)) hx hb hr (fun t ht hW => ⟨⟨(-2), (nb, ad, C, M), rfl, ⟨fm_grown.rf hI hc.1, Or.inl ⟨by omega, zk_m2, rfl, rfl⟩⟩, by show fm_at D ad C nb M t.heap; rw [ht]; exact hw, hc.2.1.moved hW.alike⟩, hS.F ht⟩) hS.2.2 dX11_body_55
        · refine lv_iload_n hx hb dX11_body_21 rfl (lv_at hl 3 rfl) ?_
          refine lv_bipush (v := 20) hx hb dX11_body_22 (by decide) ?_
          refine fx_icmp_gt (tgt := 53) hx hb dX11_body_24 (by decide) rfl zk_20 (fun c7 => ?_) (fun c7 => ?_)
          · refine lv_bipush (v := (-2)) hx hb dX11_body_53 (by decide) ?_
            refine W.widen (k := 7) (n := 387) (by decide) (by decide) ?_
            have hN9 := hI.2.2.2.2.2.2.1
            exact W.iret (v := (-2)) hx hb hr (fun t ht hW => ⟨⟨(-2), (nb, ad, C, M), rfl, ⟨fm_grown.rf hI hc.1, Or.inl ⟨by omega, zk_m2, rfl, rfl⟩⟩, by show fm_at D ad C nb M t.heap; rw [ht]; exact hw, hc.2.1.moved hW.alike⟩, hS.F ht⟩) hS.2.2 dX11_body_55
          · refine lv_iload hx hb dX11_body_27 (lv_at hl 4 rfl) ?_
            refine fx_if_lt (tgt := 53) hx hb dX11_body_29 (by decide) rfl (fun c8 => ?_) (fun c8 => ?_)
            · refine lv_bipush (v := (-2)) hx hb dX11_body_53 (by decide) ?_
              refine W.widen (k := 7) (n := 387) (by decide) (by decide) ?_
              have hN9 := hI.2.2.2.2.2.2.1
              exact W.iret (v := (-2)) hx hb hr (fun t ht hW => ⟨⟨(-2), (nb, ad, C, M), rfl, ⟨fm_grown.rf hI hc.1, Or.inl ⟨by omega, zk_m2, rfl, rfl⟩⟩, by show fm_at D ad C nb M t.heap; rw [ht]; exact hw, hc.2.1.moved hW.alike⟩, hS.F ht⟩) hS.2.2 dX11_body_55
            · refine lv_iload hx hb dX11_body_32 (lv_at hl 4 rfl) ?_
              refine lv_sipush (v := 9999) hx hb dX11_body_34 (by decide) ?_
              refine fx_icmp_gt (tgt := 53) hx hb dX11_body_37 (by decide) rfl zk_9999 (fun c9 => ?_) (fun c9 => ?_)
              · refine lv_bipush (v := (-2)) hx hb dX11_body_53 (by decide) ?_
                refine W.widen (k := 7) (n := 387) (by decide) (by decide) ?_
                have hN9 := hI.2.2.2.2.2.2.1
                exact W.iret (v := (-2)) hx hb hr (fun t ht hW => ⟨⟨(-2), (nb, ad, C, M), rfl, ⟨fm_grown.rf hI hc.1, Or.inl ⟨by omega, zk_m2, rfl, rfl⟩⟩, by show fm_at D ad C nb M t.heap; rw [ht]; exact hw, hc.2.1.moved hW.alike⟩, hS.F ht⟩) hS.2.2 dX11_body_55
              · refine lv_iload hx hb dX11_body_40 (lv_at hl 5 rfl) ?_
                refine fx_if_lt (tgt := 53) hx hb dX11_body_42 (by decide) rfl (fun c10 => ?_) (fun c10 => ?_)
                · refine lv_bipush (v := (-2)) hx hb dX11_body_53 (by decide) ?_
                  refine W.widen (k := 7) (n := 387) (by decide) (by decide) ?_
                  have hN9 := hI.2.2.2.2.2.2.1
                  exact W.iret (v := (-2)) hx hb hr (fun t ht hW => ⟨⟨(-2), (nb, ad, C, M), rfl, ⟨fm_grown.rf hI hc.1, Or.inl ⟨by omega, zk_m2, rfl, rfl⟩⟩, by show fm_at D ad C nb M t.heap; rw [ht]; exact hw, hc.2.1.moved hW.alike⟩, hS.F ht⟩) hS.2.2 dX11_body_55
                · refine lv_iload hx hb dX11_body_45 (lv_at hl 5 rfl) ?_
                  refine lv_sipush (v := 999) hx hb dX11_body_47 (by decide) ?_
                  refine fx_icmp_le (tgt := 56) hx hb dX11_body_50 (by decide) rfl zk_999 (fun c11 => ?_) (fun c11 => ?_)
                  · refine lv_aload_n hx hb dX11_body_56 rfl (lv_at hl 0 rfl) ?_
                    refine fm_getI (a := 0) (j := 10) (T := TX11) (N := 13) hx hb hts hinX11 hown hc hw hI kl_0 sh_0 rfl (by decide) rfl bd_0_10 (hts (.fieldLink RX11 75 "RedTent" "bodyCount" "I") (List.mem_cons_of_mem _ tw_2_105)) (fun _ h9 => h9) dX11_body_57 (fun x12 ex12 bx12 => ?_)
                    have nx12 : x12.toInt = nb := by rw [ex12]; exact hI.2.2.2.2.2.2.1
                    have nnx12 : nb ≤ 12 := hI.2.2.2.2.2.2.2
                    refine lv_bipush (v := 12) hx hb dX11_body_60 (by decide) ?_
                    refine fx_icmp_lt (tgt := 68) hx hb dX11_body_62 (by decide) rfl zk_12 (fun c13 => ?_) (fun c13 => ?_)
                    · refine lv_aload_n hx hb dX11_body_68 rfl (lv_at hl 0 rfl) ?_
                      refine fm_getG (a := 0) (j := 1) (T := TX11) (N := 13) hx hb hts hinX11 hown hc hw kl_0 sh_0 rfl (by decide) rfl (hI.to kl_0 tg_0_1) (hts (.fieldLink RX11 18 "RedTent" "bodies" "[LRedTent$Body;") (List.mem_cons_of_mem _ tw_2_96)) (fun _ h9 => h9) dX11_body_69 ?_
                      refine lv_aload_n hx hb dX11_body_72 rfl (lv_at hl 0 rfl) ?_
                      refine fm_getI (a := 0) (j := 10) (T := TX11) (N := 13) hx hb hts hinX11 hown hc hw hI kl_0 sh_0 rfl (by decide) rfl bd_0_10 (hts (.fieldLink RX11 75 "RedTent" "bodyCount" "I") (List.mem_cons_of_mem _ tw_2_105)) (fun _ h9 => h9) dX11_body_73 (fun x14 ex14 bx14 => ?_)
                      have nx14 : x14.toInt = nb := by rw [ex14]; exact hI.2.2.2.2.2.2.1
                      have nnx14 : nb ≤ 12 := hI.2.2.2.2.2.2.2
                      obtain rfl : x12 = x14 := by rw [ex14]; exact ex12
                      refine fm_newo (ci := 0) (T := TX0) (N := 15) (fs := [.int 0, .int 0, .int 0, .int 0, .int 0, .int 0, .null, .null, .null, .int 0, .null, .null, .int 0, .null, .int 0]) hx hb hts hinX0 tyX0 tyX0_ok hown (hts (.classLink RX11 16 RX0) (List.mem_cons_of_mem _ tw_1_51)) (hts (.instantiable RX0 15) (List.mem_cons_of_mem _ tw_2_198)) (hts (.initialized RX0) (List.mem_cons_of_mem _ tw_1_18)) hc.2.1.1 rfl (by decide) (by decide +kernel) (by decide +kernel) dX11_body_76 (fun q0 H1 eq0 hq0 hz1 ho1 => ?_)
                      have hw0 := hw
                      have hw : fm_at D ad C nb M H1 := fun a k hk => (hw0 a k hk).kept (ho1 _ (hw0 a k hk).lt)
                      have hS : va_S (fm_AA nb ad s.heap.size) s.heap H1 [] := ⟨by omega, fun q h1 _ => ho1 q h1, fun _ h => absurd h List.not_mem_nil⟩
                      refine lv_dup hx hb dX11_body_79 rfl ?_
                      refine lv_iload_n hx hb dX11_body_80 rfl (lv_at hl 1 rfl) ?_
                      refine lv_iload_n hx hb dX11_body_81 rfl (lv_at hl 2 rfl) ?_
                      refine lv_aload_n hx hb dX11_body_82 rfl (lv_at hl 0 rfl) ?_
                      refine fm_getI (a := 0) (j := 9) (T := TX11) (N := 13) hx hb hts hinX11 hown hc hw hI kl_0 sh_0 rfl (by decide) rfl bd_0_9 (hts (.fieldLink RX11 71 "RedTent" "now" "I") (List.mem_cons_of_mem _ tw_2_104)) (fun _ h9 => h9) dX11_body_83 (fun x15 ex15 bx15 => ?_)
                      refine lv_iload_n hx hb dX11_body_86 rfl (lv_at hl 3 rfl) ?_
                      refine lv_iload hx hb dX11_body_87 (lv_at hl 4 rfl) ?_
                      refine lv_iload hx hb dX11_body_89 (lv_at hl 5 rfl) ?_
                      have hPc : va_P D vwCl [(q0, .inr (0, [.int 0, .int 0, .int 0, .int 0, .int 0, .int 0, .null, .null, .null, .int 0, .null, .null, .int 0, .null, .int 0]))] H1 := fun i z hz => by
                        have hi : i < 1 := (List.getElem?_eq_some_iff.mp hz).1
                        rw [show i = 0 by omega] at hz
                        cases hz
                        exact hq0
                      have hDc : va_D (fun _ => True) [(q0, (.inr (0, [.int 0, .int 0, .int 0, .int 0, .int 0, .int 0, .null, .null, .null, .int 0, .null, .null, .int 0, .null, .int 0]) : va_E))] := ⟨fun i j p q hi hj _ => by have h1 := (List.getElem?_eq_some_iff.mp hi).1; have h2 := (List.getElem?_eq_some_iff.mp hj).1; simp at h1 h2; omega, fun _ _ _ => trivial⟩
                      have hFc : ∀ q, va_A [(q0, (.inr (0, [.int 0, .int 0, .int 0, .int 0, .int 0, .int 0, .null, .null, .null, .int 0, .null, .null, .int 0, .null, .int 0]) : va_E))] H1.size q → fm_AA nb ad s.heap.size q := fun q h => by
                        rcases h with ⟨k, e9, h⟩ | h
                        · have hi := (List.getElem?_eq_some_iff.mp h).1
                          simp at hi
                          subst hi
                          cases h
                          exact Or.inr (by omega)
                        · exact Or.inr (by omega)
                      refine va_callv (va_runI (As := [.int p0, .int p1, .int x15, .int p2, .int p3, .int p4]) (rest := [.ref q0, .int x12, .ref (ad 4 0)]) ⟨hx, hb, hml, hown, hts⟩ (rt_X0_init l D.1 D.2 H1.size q0 p0 p1 x15 p2 p3 p4) (cwI 6 hts gX11_body_X0_init rfl rfl rfl (hts (.initialized RX0) (List.mem_cons_of_mem _ tw_1_18)) (hts (.methodLink RX11 113 yX0_init) (List.mem_cons_of_mem _ tw_2_199)) (hts (.instanceMethod yX0_init) (List.mem_cons_of_mem _ tw_2_200)) rfl (by decide +kernel) ⟨Nat.le_of_ble_eq_true rfl, Nat.le_of_ble_eq_true rfl⟩) ⟨fun a U g mk q => by obtain ⟨z0, z1, z2, z3, z4⟩ := q; exact ⟨z0, z1, z2, va_K.moved (u := U) (U := U.calling g mk a) (Vm.Alike.refl U.vm) z3, z4⟩, fun U hU hW => ⟨rfl, by rw [hU], by rw [hU]; exact hPc, va_K.moved hW.alike hc.2.1.1, hDc⟩⟩ rfl rfl hl.1 rfl (lv_room (Nat.le_of_ble_eq_true rfl)) dX11_body_91 ⟨by decide +kernel, by decide +kernel⟩) hS (fun q _ h => hFc q h) hFc (fun p6 t H2 locs ht hvm h6 hB hz2 hk2 hS => ?_)
                      dsimp only at h6 hB
                      obtain ⟨ab, cb, hP1, hD1, hK1⟩ := hB
                      rw [ht] at hP1
                      have hold : ∀ q, q < s.heap.size → H2[q]? = s.heap[q]? := fun q h => (hk2 q (by omega) (fun z => by
                        rcases z with ⟨k, e9, z⟩ | z
                        · have hi := (List.getElem?_eq_some_iff.mp z).1
                          simp at hi
                          subst hi
                          cases z
                          omega
                        · omega)).trans (ho1 q h)
                      have hnb : nb < 12 := by omega
                      have hnew : ∀ a, 50 ≤ a → a ≤ 56 → va_at D vwCl (rt_bn q0 ab a, fm_e (rt_bc2 cb a) (rt_bV p0 p1 x15 p2 p3 p4 p6 a) ((fun _ _ => 0 : Nat → Nat → Int64) a) (rt_bG ab a) (fm_sh a)) H2 := by
                        intro a h1 h2
                        rcases (show a = 50 ∨ a = 51 ∨ a = 52 ∨ a = 53 ∨ a = 54 ∨ a = 55 ∨ a = 56 by omega) with rfl | rfl | rfl | rfl | rfl | rfl | rfl
                        · exact hP1 0 _ rfl
                        · exact hP1 1 _ rfl
                        · exact hP1 2 _ rfl
                        · exact hP1 3 _ rfl
                        · exact hP1 4 _ rfl
                        · exact hP1 5 _ rfl
                        · exact hP1 6 _ rfl
                      have hw2 := fm_grow hw0 hold hnew
                      have hin1 : ∀ a, 50 ≤ a → a ≤ 56 → ∀ b, 50 ≤ b → b ≤ 56 → rt_bn q0 ab a = rt_bn q0 ab b → a = b := by
                        have key : ∀ a, 50 ≤ a → a ≤ 56 → ∃ e9, ([(q0, .inr (0, [.int p0, .int p1, .int x15, .int p2, .int p4, .int p3, .ref (ab 6), .ref (ab 7), .ref (ab 8), .int 0, .ref (ab 10), .ref (ab 11), .int 0, .ref (ab 13), .int p6])), (ab 6, .inl (cb 6, 40, .inl (fun _ => (0 : Int32)))), (ab 7, .inl (cb 7, 40, .inl (fun _ => (0 : Int32)))), (ab 8, .inl (cb 8, 40, .inr (.inl (fun _ => (0 : Int64))))), (ab 10, .inl (cb 10, 6, .inl (fun _ => (0 : Int32)))), (ab 11, .inl (cb 11, 6, .inl (fun _ => (0 : Int32)))), (ab 13, .inl (cb 13, 240, .inr (.inl (fun _ => (0 : Int64)))))] : va_W)[a - 50]? = some (rt_bn q0 ab a, e9) := by
                          intro a h1 h2
                          rcases (show a = 50 ∨ a = 51 ∨ a = 52 ∨ a = 53 ∨ a = 54 ∨ a = 55 ∨ a = 56 by omega) with rfl | rfl | rfl | rfl | rfl | rfl | rfl <;> exact ⟨_, rfl⟩
                        intro a h1 h2 b h3 h4 he
                        obtain ⟨e8, k8⟩ := key a h1 h2
                        obtain ⟨e9, k9⟩ := key b h3 h4
                        have h9 := hD1.1 _ _ _ _ k8 k9 he
                        omega
                      have hnew2 : ∀ a, 50 ≤ a → a ≤ 56 → s.heap.size ≤ rt_bn q0 ab a := by
                        have key : ∀ a, 50 ≤ a → a ≤ 56 → ∃ e9, ([(q0, .inr (0, [.int p0, .int p1, .int x15, .int p2, .int p4, .int p3, .ref (ab 6), .ref (ab 7), .ref (ab 8), .int 0, .ref (ab 10), .ref (ab 11), .int 0, .ref (ab 13), .int p6])), (ab 6, .inl (cb 6, 40, .inl (fun _ => (0 : Int32)))), (ab 7, .inl (cb 7, 40, .inl (fun _ => (0 : Int32)))), (ab 8, .inl (cb 8, 40, .inr (.inl (fun _ => (0 : Int64))))), (ab 10, .inl (cb 10, 6, .inl (fun _ => (0 : Int32)))), (ab 11, .inl (cb 11, 6, .inl (fun _ => (0 : Int32)))), (ab 13, .inl (cb 13, 240, .inr (.inl (fun _ => (0 : Int64)))))] : va_W)[a - 50]? = some (rt_bn q0 ab a, e9) := by
                          intro a h1 h2
                          rcases (show a = 50 ∨ a = 51 ∨ a = 52 ∨ a = 53 ∨ a = 54 ∨ a = 55 ∨ a = 56 by omega) with rfl | rfl | rfl | rfl | rfl | rfl | rfl <;> exact ⟨_, rfl⟩
                        intro a h1 h2
                        obtain ⟨e9, k9⟩ := key a h1 h2
                        have h9 := hD1.2 _ _ k9
                        rcases h9 with ⟨k, e8, z⟩ | z
                        · have hi := (List.getElem?_eq_some_iff.mp z).1
                          simp at hi
                          subst hi
                          have z2 : q0 = rt_bn q0 ab a := congrArg (fun w => w.1) (Option.some.inj z)
                          omega
                        · have z : H1.size ≤ rt_bn q0 ab a := z
                          omega
                      have hlt : ∀ a k, k < fm_ct nb a → ad a k < s.heap.size := fun a k hk => (hw0 a k hk).lt
                      have hinj : fm_inj (fm_ga ad nb (rt_bn q0 ab)) (nb + 1) := by
                        intro a k b j hk hj he
                        by_cases g : k = nb ∧ 50 ≤ a ∧ a ≤ 56
                        · rw [fm_ga_in g] at he
                          by_cases g2 : j = nb ∧ 50 ≤ b ∧ b ≤ 56
                          · rw [fm_ga_in g2] at he
                            exact ⟨hin1 a g.2.1 g.2.2 b g2.2.1 g2.2.2 he, g.1.trans g2.1.symm⟩
                          · rw [fm_ga_out g2] at he
                            have h1 := hnew2 a g.2.1 g.2.2
                            have h2 := hlt b j (fm_ct_old hj g2)
                            omega
                        · rw [fm_ga_out g] at he
                          by_cases g2 : j = nb ∧ 50 ≤ b ∧ b ≤ 56
                          · rw [fm_ga_in g2] at he
                            have h1 := hnew2 b g2.2.1 g2.2.2
                            have h2 := hlt a k (fm_ct_old hk g)
                            omega
                          · rw [fm_ga_out g2] at he
                            exact hc.1 a k b j (fm_ct_old hk g) (fm_ct_old hj g2) he
                      have hK2 : fm_K D (fm_ga C nb (rt_bc2 cb)) (nb + 1) s := by
                        refine ⟨hc.2.1.1, fun a k hk ht3 => ?_⟩
                        by_cases g : k = nb ∧ 50 ≤ a ∧ a ≤ 56
                        · rw [fm_ga_in g]
                          have hK1 := va_K.moved hvm.symm hK1
                          obtain ⟨-, g1, g2⟩ := g
                          rcases (show a = 50 ∨ a = 51 ∨ a = 52 ∨ a = 53 ∨ a = 54 ∨ a = 55 ∨ a = 56 by omega) with rfl | rfl | rfl | rfl | rfl | rfl | rfl
                          · exact absurd ht3 (by decide)
                          · exact hK1.2 0 _ rfl
                          · exact hK1.2 1 _ rfl
                          · exact hK1.2 2 _ rfl
                          · exact hK1.2 3 _ rfl
                          · exact hK1.2 4 _ rfl
                          · exact hK1.2 5 _ rfl
                        · rw [fm_ga_out g]
                          exact hc.2.1.2 a k (fm_ct_old hk g) ht3
                      have hA2 : ∀ q, fm_A (nb + 1) (fm_ga ad nb (rt_bn q0 ab)) q → fm_AA nb ad s.heap.size q := by
                        rintro q ⟨a, k, hk, rfl⟩
                        by_cases g : k = nb ∧ 50 ≤ a ∧ a ≤ 56
                        · rw [fm_ga_in g]
                          exact Or.inr (hnew2 a g.2.1 g.2.2)
                        · rw [fm_ga_out g]
                          exact Or.inl ⟨a, k, fm_ct_old hk g, rfl⟩
                      have q50 : q0 = fm_ga ad nb (rt_bn q0 ab) 50 nb := (show q0 = rt_bn q0 ab 50 from rfl).trans (fm_ga_in (ad := ad) (nw := rt_bn q0 ab) (a := 50) (k := nb) ⟨rfl, by decide, by decide⟩).symm
                      have a40 : ad 4 0 = fm_ga ad nb (rt_bn q0 ab) 4 0 := (fm_ga_out (fun z => absurd z.2.1 (by decide))).symm
                      have a00 : ad 0 0 = fm_ga ad nb (rt_bn q0 ab) 0 0 := (fm_ga_out (fun z => absurd z.2.1 (by decide))).symm
                      refine W.eq (g2 := F0 m 94 ls [.ref (fm_ga ad nb (rt_bn q0 ab) 50 nb), .int x12, .ref (fm_ga ad nb (rt_bn q0 ab) 4 0)]) (by rw [← q50, ← a40]) ?_
                      refine fm_aasB hx hb hinj hK2 hw2 hA2 hS (by omega) (Nat.lt_succ_self nb) dX11_body_94 (fun H locs hw3 hS => ?_)
                      refine lv_aload_n hx hb dX11_body_95 rfl (lv_at hl 0 rfl) ?_
                      refine lv_dup hx hb dX11_body_96 rfl ?_
                      refine W.eq (g2 := F0 m 97 ls [.ref (fm_ga ad nb (rt_bn q0 ab) 0 0), .ref (fm_ga ad nb (rt_bn q0 ab) 0 0)]) (by rw [← a00]) ?_
                      refine va_get (D := D) (ci := 0 + 11) (v := .int x12) (C := RX11) (T := TX11) (N := 13) hx hb hts hinX11 hown hc.2.1.1 (hw3.one kl_0 (x := .inr (11, ([(0, 2), (1, 2), (2, 2), (3, 2), (4, 2), (5, 2), (6, 2), (7, 2), (8, 2), (9, 0), (10, 0), (11, 0), (12, 0)] : List (Nat × Nat)).map (fm_fv (fm_ga M.1 nb (rt_bV p0 p1 x15 p2 p3 p4 p6) 0 0) (fm_ga M.2.1 nb (fun _ _ => 0) 0 0) ((fm_wG (fm_ga M.1 nb (rt_bV p0 p1 x15 p2 p3 p4 p6), fm_ga M.2.1 nb (fun _ _ => 0), fm_ga M.2.2 nb (rt_bG ab)) 4 0 x12.toNatClampNeg (some (fm_ga ad nb (rt_bn q0 ab) 50 nb))).2.2 0 0)))) rfl) 0 rfl rfl 10 (by decide) (hts (.fieldLink RX11 75 "RedTent" "bodyCount" "I") (List.mem_cons_of_mem _ tw_2_105)) (fun _ h9 => h9) (by show some (Value.int (fm_ga M.1 nb (rt_bV p0 p1 x15 p2 p3 p4 p6) 0 0 10)) = _; rw [fm_ga_out (fun z => absurd z.2.1 (by decide)), ex12]) dX11_body_97 ?_
                      refine lv_dup_x1 hx hb dX11_body_100 rfl rfl ?_
                      refine lv_iconst (v := 1) hx hb dX11_body_101 (by decide) ?_
                      refine fx_iadd hx hb dX11_body_102 rfl zk_1 (by omega) (fun y9 ey9 ty9 => ?_)
                      refine fm_putI0 (a := 0) (k := 0) (j := 10) (T := TX11) (N := 13) hx hb hts hinX11 tyX11 tyX11_ok nmX11 hown hc.2.1.1 hinj hw3 hA2 hS kl_0 sh_0 od_0 rfl (by decide) rfl (hts (.fieldLink RX11 75 "RedTent" "bodyCount" "I") (List.mem_cons_of_mem _ tw_2_105)) (fun _ h9 => h9) rfl (by decide +kernel) dX11_body_103 (fun H locs hw4 hS => ?_)
                      have hN9 := hI.2.2.2.2.2.2.1
                      have hI4 := rt_bI (q := q0) (ab := ab) (k := p0) (c := p1) (b := x15) (n := p2) (f := p3) (u := p4) (s := p6) (x := x12) (y := y9) hI hnb (by omega) (by omega) (by omega) (by omega) (by omega) (by omega) (by rw [h6, zi_sub _ _ (by rw [zk_1]; omega) (by rw [zk_1]; omega), zk_1]) (by omega) (by omega)
                      have hsm : ∀ a k j, ¬ (k = nb ∧ 50 ≤ a ∧ a ≤ 56) → fm_cd a j ∉ [10, 4000] → (fm_wI (fm_wG (fm_ga M.1 nb (rt_bV p0 p1 x15 p2 p3 p4 p6), fm_ga M.2.1 nb (fun _ _ => 0), fm_ga M.2.2 nb (rt_bG ab)) 4 0 x12.toNatClampNeg (some (fm_ga ad nb (rt_bn q0 ab) 50 nb))) 0 0 10 y9).1 a k j = M.1 a k j ∧ (fm_wI (fm_wG (fm_ga M.1 nb (rt_bV p0 p1 x15 p2 p3 p4 p6), fm_ga M.2.1 nb (fun _ _ => 0), fm_ga M.2.2 nb (rt_bG ab)) 4 0 x12.toNatClampNeg (some (fm_ga ad nb (rt_bn q0 ab) 50 nb))) 0 0 10 y9).2.1 a k j = M.2.1 a k j ∧ (fm_wI (fm_wG (fm_ga M.1 nb (rt_bV p0 p1 x15 p2 p3 p4 p6), fm_ga M.2.1 nb (fun _ _ => 0), fm_ga M.2.2 nb (rt_bG ab)) 4 0 x12.toNatClampNeg (some (fm_ga ad nb (rt_bn q0 ab) 50 nb))) 0 0 10 y9).2.2 a k j = M.2.2 a k j := by
                        intro a k j g hn
                        refine ⟨?_, ?_, ?_⟩
                        · rw [fm_wI_nj (fun z => hn (by rw [z.1, z.2.2, cd_0_10]; decide))]
                          show fm_ga M.1 nb (rt_bV p0 p1 x15 p2 p3 p4 p6) a k j = _
                          exact congrFun (fm_ga_out (ad := M.1) (nw := rt_bV p0 p1 x15 p2 p3 p4 p6) g) j
                        · show fm_ga M.2.1 nb (fun _ _ => 0) a k j = _
                          exact congrFun (fm_ga_out (ad := M.2.1) (nw := fun _ _ => 0) g) j
                        · show (fm_wG _ 4 0 _ _).2.2 a k j = _
                          rw [fm_wG_nj (fun z => hn (by rw [z.1, cd_4]; decide))]
                          show fm_ga M.2.2 nb (rt_bG ab) a k j = _
                          exact congrFun (fm_ga_out (ad := M.2.2) (nw := rt_bG ab) g) j
                      refine W.widen (k := 7) (n := 387) (by decide) (by decide) ?_
                      exact W.iret (v := x12) hx hb hr (fun t9 ht9 hW => ⟨⟨x12, (nb + 1, fm_ga ad nb (rt_bn q0 ab), fm_ga C nb (rt_bc2 cb), _), rfl, ⟨⟨hI4, hinj, fun a k hk => fm_ga_out (fm_ct_new hk).2, hA2, hsm, Nat.le_succ nb⟩, Or.inr (Or.inr ⟨by omega, hnb, by omega, rfl, by show ((fm_wI _ 0 0 10 y9).1 0 0 10).toInt = _; rw [fm_wI_at]; omega, by show (fm_wI _ 0 0 10 y9).1 50 nb 0 = _; rw [fm_wI_nj (fun z => absurd z.1 (by decide))]; exact (congrFun (fm_ga_in (ad := M.1) (nw := rt_bV p0 p1 x15 p2 p3 p4 p6) (a := 50) (k := nb) ⟨rfl, by decide, by decide⟩) 0), by show (fm_wI _ 0 0 10 y9).1 50 nb 1 = _; rw [fm_wI_nj (fun z => absurd z.1 (by decide))]; exact (congrFun (fm_ga_in (ad := M.1) (nw := rt_bV p0 p1 x15 p2 p3 p4 p6) (a := 50) (k := nb) ⟨rfl, by decide, by decide⟩) 1), by show (fm_wI _ 0 0 10 y9).1 50 nb 2 = _; rw [fm_wI_nj (fun z => absurd z.1 (by decide))]; exact (congrFun (fm_ga_in (ad := M.1) (nw := rt_bV p0 p1 x15 p2 p3 p4 p6) (a := 50) (k := nb) ⟨rfl, by decide, by decide⟩) 2).trans ex15, by show (fm_wI _ 0 0 10 y9).1 50 nb 3 = _; rw [fm_wI_nj (fun z => absurd z.1 (by decide))]; exact (congrFun (fm_ga_in (ad := M.1) (nw := rt_bV p0 p1 x15 p2 p3 p4 p6) (a := 50) (k := nb) ⟨rfl, by decide, by decide⟩) 3), by show (fm_wI _ 0 0 10 y9).1 50 nb 4 = _; rw [fm_wI_nj (fun z => absurd z.1 (by decide))]; exact (congrFun (fm_ga_in (ad := M.1) (nw := rt_bV p0 p1 x15 p2 p3 p4 p6) (a := 50) (k := nb) ⟨rfl, by decide, by decide⟩) 4), by show (fm_wI _ 0 0 10 y9).1 50 nb 5 = _; rw [fm_wI_nj (fun z => absurd z.1 (by decide))]; exact (congrFun (fm_ga_in (ad := M.1) (nw := rt_bV p0 p1 x15 p2 p3 p4 p6) (a := 50) (k := nb) ⟨rfl, by decide, by decide⟩) 5), by show (fm_wI _ 0 0 10 y9).1 50 nb 12 = _; rw [fm_wI_nj (fun z => absurd z.1 (by decide))]; exact (congrFun (fm_ga_in (ad := M.1) (nw := rt_bV p0 p1 x15 p2 p3 p4 p6) (a := 50) (k := nb) ⟨rfl, by decide, by decide⟩) 12)⟩)⟩, by show fm_at D _ _ _ _ t9.heap; rw [ht9]; exact hw4, hK2.moved hW.alike⟩, hS.F ht9⟩) hS.2.2 dX11_body_106
                    · refine lv_bipush (v := (-4)) hx hb dX11_body_65 (by decide) ?_
                      refine W.widen (k := 7) (n := 387) (by decide) (by decide) ?_
                      have hN9 := hI.2.2.2.2.2.2.1
                      exact W.iret (v := (-4)) hx hb hr (fun t ht hW => ⟨⟨(-4), (nb, ad, C, M), rfl, ⟨fm_grown.rf hI hc.1, Or.inr (Or.inl ⟨by omega, by omega, zk_m4, rfl, rfl⟩)⟩, by show fm_at D ad C nb M t.heap; rw [ht]; exact hw, hc.2.1.moved hW.alike⟩, hS.F ht⟩) hS.2.2 dX11_body_67
                  · refine lv_bipush (v := (-2)) hx hb dX11_body_53 (by decide) ?_
                    refine W.widen (k := 7) (n := 387) (by decide) (by decide) ?_
                    have hN9 := hI.2.2.2.2.2.2.1
                    exact W.iret (v := (-2)) hx hb hr (fun t ht hW => ⟨⟨(-2), (nb, ad, C, M), rfl, ⟨fm_grown.rf hI hc.1, Or.inl ⟨by omega, zk_m2, rfl, rfl⟩⟩, by show fm_at D ad C nb M t.heap; rw [ht]; exact hw, hc.2.1.moved hW.alike⟩, hS.F ht⟩) hS.2.2 dX11_body_55
      · refine fx_if_eq (tgt := 53) hx hb dX11_body_14 (by decide) zk_0 (fun c16 => ?_) (fun c16 => by exfalso; omega)
        refine lv_bipush (v := (-2)) hx hb dX11_body_53 (by decide) ?_
        refine W.widen (k := 7) (n := 387) (by decide) (by decide) ?_
        have hN9 := hI.2.2.2.2.2.2.1
        exact W.iret (v := (-2)) hx hb hr (fun t ht hW => ⟨⟨(-2), (nb, ad, C, M), rfl, ⟨fm_grown.rf hI hc.1, Or.inl ⟨by omega, zk_m2, rfl, rfl⟩⟩, by show fm_at D ad C nb M t.heap; rw [ht]; exact hw, hc.2.1.moved hW.alike⟩, hS.F ht⟩) hS.2.2 dX11_body_55
