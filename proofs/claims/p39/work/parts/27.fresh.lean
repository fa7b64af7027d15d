theorem fm_of_list {D : va_G} {s : State} {H : Heap} {A : Nat → Prop} {ws : va_W} {NL : List (Nat × Nat)} {tys : List (ClassId × FieldType)} {ad : Nat → Nat → Nat} {C : Nat → Nat → ClassId} {M : fm_M} {nb : Nat} (hcell : ws = NL.map (fun q => (ad q.1 q.2, fm_e (C q.1 q.2) (M.1 q.1 q.2) (M.2.1 q.1 q.2) (M.2.2 q.1 q.2) (fm_sh q.1)))) (hP : va_P D vwCl ws H) (hD : va_D A ws) (hK : va_K D vwCl tys s) (hty : ∀ q ∈ NL, (fm_sh q.1).1 < 3 → (C q.1 q.2, fm_ty q.1) ∈ tys) (hNL : ∀ a k, k < fm_ct nb a → (a, k) ∈ NL) : fm_at D ad C nb M H ∧ fm_inj ad nb ∧ fm_K D C nb s ∧ ∀ q, fm_A nb ad q → A q := by
  have at' : ∀ a k, k < fm_ct nb a → ∃ i : Nat, NL[i]? = some (a, k) ∧ ws[i]? = some (ad a k, fm_e (C a k) (M.1 a k) (M.2.1 a k) (M.2.2 a k) (fm_sh a)) := by
    intro a k hk
    obtain ⟨i, hi⟩ := List.getElem?_of_mem (hNL a k hk)
    exact ⟨i, hi, by rw [hcell, List.getElem?_map, hi]; rfl⟩
  refine ⟨fun a k hk => ?_, fun a k b j hk hj he => ?_, ⟨⟨hK.1, fun k q h => by simp at h⟩, fun a k hk ht => ?_⟩, fun q hq => ?_⟩
  · obtain ⟨i, -, hi⟩ := at' a k hk
    exact hP i _ hi
  · obtain ⟨i, hi1, hi2⟩ := at' a k hk
    obtain ⟨i2, hj1, hj2⟩ := at' b j hj
    have h := hD.1 i i2 _ _ hi2 hj2 he
    subst h
    rw [hi1] at hj1
    cases hj1
    exact ⟨rfl, rfl⟩
  · obtain ⟨i, hi⟩ := List.getElem?_of_mem (hty (a, k) (hNL a k hk) ht)
    exact hK.2 i (C a k, fm_ty a) hi
  · obtain ⟨a, k, hk, rfl⟩ := hq
    obtain ⟨i, -, hi⟩ := at' a k hk
    exact hD.2 i _ hi
theorem fm_b0 (a j : Nat) : (fm_b a j).1 ≤ 0 ∧ 0 ≤ (fm_b a j).2 := by
  have h : fm_bs.all (fun l => l.all (fun q => decide (q.1 ≤ 0 ∧ 0 ≤ q.2))) = true := by decide +kernel
  have key : ∀ (l : List (Int × Int)), l.all (fun q => decide (q.1 ≤ 0 ∧ 0 ≤ q.2)) = true → ∀ n, (l.getD n (-2147483648, 2147483647)).1 ≤ 0 ∧ 0 ≤ (l.getD n (-2147483648, 2147483647)).2 := by
    intro l hl n
    rw [List.getD_eq_getElem?_getD]
    cases hn : l[n]? with
    | none => exact (by decide)
    | some q => exact of_decide_eq_true (List.all_eq_true.mp hl q (List.mem_of_getElem? hn))
  unfold fm_b
  refine key _ ?_ _
  rw [List.getD_eq_getElem?_getD]
  cases hn : fm_bs[a]? with
  | none => rfl
  | some l => exact List.all_eq_true.mp h l (List.mem_of_getElem? hn)
/-- addresses with new ones at a body's names -/
def fm_ga {α : Type} (ad : Nat → Nat → α) (nb : Nat) (nw : Nat → α) : Nat → Nat → α := fun a k => if k = nb ∧ 50 ≤ a ∧ a ≤ 56 then nw a else ad a k
theorem fm_ga_in {α : Type} {ad : Nat → Nat → α} {nb : Nat} {nw : Nat → α} {a k : Nat} (h : k = nb ∧ 50 ≤ a ∧ a ≤ 56) : fm_ga ad nb nw a k = nw a := if_pos h
theorem fm_ga_out {α : Type} {ad : Nat → Nat → α} {nb : Nat} {nw : Nat → α} {a k : Nat} (h : ¬ (k = nb ∧ 50 ≤ a ∧ a ≤ 56)) : fm_ga ad nb nw a k = ad a k := if_neg h
theorem fm_ct_old {nb a k : Nat} (h : k < fm_ct (nb + 1) a) (hn : ¬ (k = nb ∧ 50 ≤ a ∧ a ≤ 56)) : k < fm_ct nb a := by
  unfold fm_ct at h ⊢
  split
  · rename_i g
    rw [if_pos g] at h
    omega
  · rename_i g
    rw [if_neg g] at h
    exact h
theorem fm_ct_new {nb a k : Nat} (h : k < fm_ct nb a) : k < fm_ct (nb + 1) a ∧ ¬ (k = nb ∧ 50 ≤ a ∧ a ≤ 56) := by
  unfold fm_ct at h ⊢
  split
  · rename_i g
    rw [if_pos g] at h
    omega
  · rename_i g
    rw [if_neg g] at h
    exact ⟨h, fun z => g z.2⟩
theorem fm_grow {D : va_G} {ad : Nat → Nat → Nat} {C : Nat → Nat → ClassId} {nb : Nat} {M : fm_M} {H0 H2 : Heap} (hw : fm_at D ad C nb M H0) (hold : ∀ q, q < H0.size → H2[q]? = H0[q]?) {nw : Nat → Nat} {nc : Nat → ClassId} {V : Nat → Nat → Int32} {L : Nat → Nat → Int64} {G : Nat → Nat → Option Nat} (hnew : ∀ a, 50 ≤ a → a ≤ 56 → va_at D vwCl (nw a, fm_e (nc a) (V a) (L a) (G a) (fm_sh a)) H2) : fm_at D (fm_ga ad nb nw) (fm_ga C nb nc) (nb + 1) (fm_ga M.1 nb V, fm_ga M.2.1 nb L, fm_ga M.2.2 nb G) H2 := by
  intro a k hk
  by_cases h : k = nb ∧ 50 ≤ a ∧ a ≤ 56
  · show va_at D vwCl (fm_ga ad nb nw a k, fm_e (fm_ga C nb nc a k) (fm_ga M.1 nb V a k) (fm_ga M.2.1 nb L a k) (fm_ga M.2.2 nb G a k) (fm_sh a)) H2
    rw [fm_ga_in h, fm_ga_in h, fm_ga_in h, fm_ga_in h, fm_ga_in h]
    exact hnew a h.2.1 h.2.2
  · show va_at D vwCl (fm_ga ad nb nw a k, fm_e (fm_ga C nb nc a k) (fm_ga M.1 nb V a k) (fm_ga M.2.1 nb L a k) (fm_ga M.2.2 nb G a k) (fm_sh a)) H2
    rw [fm_ga_out h, fm_ga_out h, fm_ga_out h, fm_ga_out h, fm_ga_out h]
    have hk0 := fm_ct_old hk h
    exact (hw a k hk0).kept (hold _ (hw a k hk0).lt)
