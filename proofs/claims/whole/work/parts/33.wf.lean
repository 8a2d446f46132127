theorem WF.use {n : Nat} {α : AS} (w : WF n α) {k : Nat} (hk : k < a_c α) (h3 : ¬ a_T α k = 3) : WF n (a_sT α k 0) := by
  refine ⟨w.1, w.2.1, w.2.2.1, fun j hj => ?_, fun j hj => ?_, ?_⟩
  · have hj : j < a_c α := hj
    by_cases e : j = k
    · subst e; exact Or.inl up_at
    · have t := w.to hj
      unfold TO at t ⊢
      rw [show a_T (a_sT α k 0) j = a_T α j from up_ne e]
      exact t
  · have hj : j + 1 < a_c α := hj
    show va_up (a_T α) k 0 j = 0 ∨ va_up (a_T α) k 0 (j + 1) = 0
    by_cases e : j = k
    · subst e; exact Or.inl up_at
    · rw [up_ne e]
      by_cases e2 : j + 1 = k
      · rw [e2, up_at]; exact Or.inr rfl
      · rw [up_ne e2]; exact w.2.2.2.2.1 j hj
  · rcases w.2.2.2.2.2 with z | ⟨j, hj, z1, z2⟩
    · exact Or.inl z
    · refine Or.inr ⟨j, hj, z1, ?_⟩
      show va_up (a_T α) k 0 j = 3
      rw [up_ne (show j ≠ k from fun e => h3 (by rw [← e]; exact z2))]
      exact z2
theorem WF.useV {n : Nat} {α : AS} (w : WF n α) {k : Nat} (hk : k < a_c α) (h3 : a_T α k = 3) : WF n (a_sV (a_sT α k 0) (-1)) := by
  refine ⟨w.1, w.2.1, w.2.2.1, fun j hj => ?_, fun j hj => ?_, Or.inl rfl⟩
  · have hj : j < a_c α := hj
    by_cases e : j = k
    · subst e; exact Or.inl up_at
    · have t := w.to hj
      unfold TO at t ⊢
      rw [show a_T (a_sV (a_sT α k 0) (-1)) j = a_T α j from up_ne e]
      rcases t with t | t | t | t | t
      · exact Or.inl t
      · exact Or.inr (Or.inl t)
      · exact Or.inr (Or.inr (Or.inl t))
      · exact absurd (w.vu hj hk t.1 h3) e
      · exact Or.inr (Or.inr (Or.inr (Or.inr t)))
  · have hj : j + 1 < a_c α := hj
    show va_up (a_T α) k 0 j = 0 ∨ va_up (a_T α) k 0 (j + 1) = 0
    by_cases e : j = k
    · subst e; exact Or.inl up_at
    · rw [up_ne e]
      by_cases e2 : j + 1 = k
      · rw [e2, up_at]; exact Or.inr rfl
      · rw [up_ne e2]; exact w.2.2.2.2.1 j hj
/-- a chunk parted: used in front, v behind -/
theorem WF.part {n : Nat} {α : AS} (w : WF n α) {k s : Nat} (hk : k < a_c α) (h2 : 2 ≤ s) (hs : s + 2 ≤ a_S α k) {v : Int32} (hnx : v = 0 ∨ (k + 1 < a_c α → a_T α (k + 1) = 0)) {T' C' : Nat → Int32} {V' K' : Int32} {un' : Nat → Int32} (eT : T' = a_ins (va_up (a_T α) k 0) k v)
    (hv : v = 0 ∨ (v = 4 ∧ k + 1 = a_c α) ∨ (k + 1 ≠ a_c α ∧ ((v = 1 ∧ a_S α k - s < 16) ∨ (v = 2 ∧ 16 ≤ a_S α k - s) ∨ (v = 3 ∧ V' = nI (a_F α k + s))))) (hV1 : ∀ j, j < a_c α → j ≠ k → a_T α j = 3 → V' = nI (a_F α j)) (hV2 : V' = -1 ∨ (V' = nI (a_F α k + s) ∧ v = 3) ∨ ∃ j, j < a_c α ∧ j ≠ k ∧ V' = nI (a_F α j) ∧ a_T α j = 3) :
    WF n (a_c α + 1, a_ins (a_F α) k (a_F α k + s), va_up (a_ins (a_S α) k (a_S α k - s)) k s, T', C', V', K', un') := by
  have g := w.ge
  have nT : ∀ j, j < a_c α → j + 1 ≠ a_c α → ¬ a_T α j = 4 := fun j hj e t => by
    rcases w.to hj with z | z | z | z | z
    · rw [t] at z; exact absurd z (by decide)
    · rw [t] at z; exact absurd z.1 (by decide)
    · rw [t] at z; exact absurd z.1 (by decide)
    · rw [t] at z; exact absurd z.1 (by decide)
    · exact e z.2
  -- an old chunk at its new place
  have old : ∀ j i, j < a_c α → j ≠ k → (a_ins (a_F α) k (a_F α k + s) i = a_F α j) → (va_up (a_ins (a_S α) k (a_S α k - s)) k s i = a_S α j) → (T' i = a_T α j) → (i + 1 = a_c α + 1 ↔ j + 1 = a_c α ∨ (j < k ∧ i + 1 = a_c α + 1)) → (j < k → i = j) → TO (a_c α + 1, a_ins (a_F α) k (a_F α k + s), va_up (a_ins (a_S α) k (a_S α k - s)) k s, T', C', V', K', un') i := by
    intro j i hj hjk e1 e2 e3 e4 e5
    have t := w.to hj
    unfold TO at t ⊢
    show T' i = 0 ∨ (T' i = 1 ∧ va_up (a_ins (a_S α) k (a_S α k - s)) k s i < 16 ∧ i + 1 ≠ a_c α + 1) ∨ (T' i = 2 ∧ 16 ≤ va_up (a_ins (a_S α) k (a_S α k - s)) k s i ∧ i + 1 ≠ a_c α + 1) ∨ (T' i = 3 ∧ V' = nI (a_ins (a_F α) k (a_F α k + s) i) ∧ i + 1 ≠ a_c α + 1) ∨ (T' i = 4 ∧ i + 1 = a_c α + 1)
    rw [e1, e2, e3]
    have nl : j + 1 ≠ a_c α → i + 1 ≠ a_c α + 1 := fun z y => by
      rcases e4.mp y with q | q
      · exact z q
      · have := e5 q.1; omega
    rcases t with t | t | t | t | t
    · exact Or.inl t
    · exact Or.inr (Or.inl ⟨t.1, t.2.1, nl t.2.2⟩)
    · exact Or.inr (Or.inr (Or.inl ⟨t.1, t.2.1, nl t.2.2⟩))
    · exact Or.inr (Or.inr (Or.inr (Or.inl ⟨t.1, hV1 j hj hjk t.1, nl t.2.2⟩)))
    · exact Or.inr (Or.inr (Or.inr (Or.inr ⟨t.1, e4.mpr (Or.inl t.2)⟩)))
  refine ⟨GE.part (α := α) (v := v) g hk h2 hs, ?_, w.2.2.1, fun j hj => ?_, fun j hj => ?_, ?_⟩
  · show a_ins (a_F α) k (a_F α k + s) (a_c α + 1) ≤ n
    rw [a_ins_hi (by omega)]
    exact w.2.1
  · have hj : j < a_c α + 1 := hj
    rcases (show j < k ∨ j = k ∨ j = k + 1 ∨ k + 1 < j by omega) with q | q | q | q
    · refine old j j (by omega) (by omega) (a_ins_lo (by omega)) ?_ ?_ ⟨fun z => by omega, fun z => by omega⟩ (fun _ => rfl)
      · rw [up_ne (by omega), a_ins_lo (by omega)]
      · rw [eT, a_ins_lo (by omega), up_ne (by omega)]
    · subst q
      refine Or.inl ?_
      show T' j = 0
      rw [eT, a_ins_lo (by omega), up_at]
    · subst q
      have e3 : T' (k + 1) = v := by rw [eT, a_ins_at]
      have e1 : a_ins (a_F α) k (a_F α k + s) (k + 1) = a_F α k + s := a_ins_at
      have e2 : va_up (a_ins (a_S α) k (a_S α k - s)) k s (k + 1) = a_S α k - s := by rw [up_ne (by omega), a_ins_at]
      show T' (k + 1) = 0 ∨ (T' (k + 1) = 1 ∧ va_up (a_ins (a_S α) k (a_S α k - s)) k s (k + 1) < 16 ∧ k + 1 + 1 ≠ a_c α + 1) ∨ (T' (k + 1) = 2 ∧ 16 ≤ va_up (a_ins (a_S α) k (a_S α k - s)) k s (k + 1) ∧ k + 1 + 1 ≠ a_c α + 1) ∨ (T' (k + 1) = 3 ∧ V' = nI (a_ins (a_F α) k (a_F α k + s) (k + 1)) ∧ k + 1 + 1 ≠ a_c α + 1) ∨ (T' (k + 1) = 4 ∧ k + 1 + 1 = a_c α + 1)
      rw [e1, e2, e3]
      rcases hv with x | ⟨x, y⟩ | ⟨y, x | x | x⟩
      · exact Or.inl x
      · exact Or.inr (Or.inr (Or.inr (Or.inr ⟨x, by omega⟩)))
      · exact Or.inr (Or.inl ⟨x.1, x.2, by omega⟩)
      · exact Or.inr (Or.inr (Or.inl ⟨x.1, x.2, by omega⟩))
      · exact Or.inr (Or.inr (Or.inr (Or.inl ⟨x.1, x.2, by omega⟩)))
    · refine old (j - 1) j (by omega) (by omega) (a_ins_hi (by omega)) ?_ ?_ ⟨fun z => by omega, fun z => by omega⟩ (fun z => by omega)
      · rw [up_ne (by omega), a_ins_hi (by omega)]
      · rw [eT, a_ins_hi (by omega), up_ne (by omega)]
  · have hj : j + 1 < a_c α + 1 := hj
    show T' j = 0 ∨ T' (j + 1) = 0
    rw [eT]
    rcases (show j + 1 < k ∨ j + 1 = k ∨ j = k ∨ j = k + 1 ∨ k + 1 < j by omega) with q | q | q | q | q
    · rw [a_ins_lo (by omega), a_ins_lo (by omega), up_ne (by omega), up_ne (by omega)]
      exact w.2.2.2.2.1 j (by omega)
    · refine Or.inr ?_
      rw [q, a_ins_lo (by omega), up_at]
    · subst q
      refine Or.inl ?_
      rw [a_ins_lo (by omega), up_at]
    · subst q
      rcases hnx with y | y
      · refine Or.inl ?_
        rw [a_ins_at]; exact y
      · refine Or.inr ?_
        rw [a_ins_hi (by omega), up_ne (by omega)]
        exact y (by omega)
    · rw [a_ins_hi (by omega), a_ins_hi (by omega), up_ne (by omega), up_ne (by omega)]
      have := w.2.2.2.2.1 (j - 1) (by omega)
      rw [show j - 1 + 1 = j by omega] at this
      rw [show j + 1 - 1 = j by omega]
      exact this
  · rcases hV2 with z | ⟨z1, z2⟩ | ⟨j, hj, hjk, z1, z2⟩
    · exact Or.inl z
    · refine Or.inr ⟨k + 1, show k + 1 < a_c α + 1 by omega, ?_, ?_⟩
      · show V' = nI (a_ins (a_F α) k (a_F α k + s) (k + 1))
        rw [a_ins_at]; exact z1
      · show T' (k + 1) = 3
        rw [eT, a_ins_at]; exact z2
    · rcases (show j < k ∨ k < j by omega) with q | q
      · refine Or.inr ⟨j, show j < a_c α + 1 by omega, ?_, ?_⟩
        · show V' = nI (a_ins (a_F α) k (a_F α k + s) j)
          rw [a_ins_lo (by omega)]; exact z1
        · show T' j = 3
          rw [eT, a_ins_lo (by omega), up_ne (by omega)]; exact z2
      · refine Or.inr ⟨j + 1, show j + 1 < a_c α + 1 by omega, ?_, ?_⟩
        · show V' = nI (a_ins (a_F α) k (a_F α k + s) (j + 1))
          rw [a_ins_hi (by omega)]; exact z1
        · show T' (j + 1) = 3
          rw [eT, a_ins_hi (by omega), up_ne (show j + 1 - 1 ≠ k by omega)]; exact z2
theorem WF.nx {n : Nat} {α : AS} (w : WF n α) {k : Nat} (hT : ¬ a_T α k = 0) (hk : k + 1 < a_c α) : a_T α (k + 1) = 0 := (w.2.2.2.2.1 k hk).elim (fun z => absurd z hT) id
/-- the victim goes into a store -/
theorem WF.devict {n : Nat} {α : AS} (w : WF n α) {v : Nat} (hv : v < a_c α) (h3 : a_T α v = 3) : WF n (a_sV (a_stor2 α v (a_code (a_S α v))) (-1)) := by
  refine ⟨w.1, w.2.1, w.2.2.1, fun j hj => ?_, fun j hj => ?_, Or.inl rfl⟩
  · have hj : j < a_c α := hj
    by_cases e : j = v
    · subst e
      have l := (w.v1 hj h3).2
      unfold TO
      rw [show a_T (a_sV (a_stor2 α j (a_code (a_S α j))) (-1)) j = a_code (a_S α j) from up_at]
      show a_code (a_S α j) = 0 ∨ (a_code (a_S α j) = 1 ∧ a_S α j < 16 ∧ j + 1 ≠ a_c α) ∨ (a_code (a_S α j) = 2 ∧ 16 ≤ a_S α j ∧ j + 1 ≠ a_c α) ∨ _
      unfold a_code
      by_cases z : a_S α j < 16
      · rw [if_pos z]; exact Or.inr (Or.inl ⟨rfl, z, l⟩)
      · rw [if_neg z]; exact Or.inr (Or.inr (Or.inl ⟨rfl, by omega, l⟩))
    · have t := w.to hj
      unfold TO at t ⊢
      rw [show a_T (a_sV (a_stor2 α v (a_code (a_S α v))) (-1)) j = a_T α j from up_ne e]
      rcases t with t | t | t | t | t
      · exact Or.inl t
      · exact Or.inr (Or.inl t)
      · exact Or.inr (Or.inr (Or.inl t))
      · exact absurd (w.vu hj hv t.1 h3) e
      · exact Or.inr (Or.inr (Or.inr (Or.inr t)))
  · have hj : j + 1 < a_c α := hj
    show va_up (a_T α) v _ j = 0 ∨ va_up (a_T α) v _ (j + 1) = 0
    by_cases e : j = v
    · subst e
      rw [up_ne (show j + 1 ≠ j by omega)]
      exact Or.inr (w.nx (by rw [h3]; decide) hj)
    · rw [up_ne e]
      by_cases e2 : j + 1 = v
      · refine Or.inl ((w.2.2.2.2.1 j hj).elim id (fun z => ?_))
        rw [e2, h3] at z; exact absurd z (by decide)
      · rw [up_ne e2]; exact w.2.2.2.2.1 j hj
theorem WF.growT {n : Nat} {α : AS} (w : WF n α) {t m : Nat} (ht : t + 1 = a_c α) (h4 : a_T α t = 4) (hm : a_F α (a_c α) + m ≤ n) : WF n (a_growT α t m) := by
  have hn := w.2.2.1
  refine ⟨w.ge.growT ht (by omega), ?_, hn, fun j hj => ?_, w.2.2.2.2.1, ?_⟩
  · show va_up (a_F α) (a_c α) (a_F α (a_c α) + m) (a_c α) ≤ n
    rw [up_at]; exact hm
  · have hj : j < a_c α := hj
    have z := w.to hj
    by_cases e : j = t
    · subst e
      exact Or.inr (Or.inr (Or.inr (Or.inr ⟨h4, ht⟩)))
    · unfold TO at z ⊢
      show a_T α j = 0 ∨ (a_T α j = 1 ∧ va_up (a_S α) t (a_S α t + m) j < 16 ∧ j + 1 ≠ a_c α) ∨ (a_T α j = 2 ∧ 16 ≤ va_up (a_S α) t (a_S α t + m) j ∧ j + 1 ≠ a_c α) ∨ (a_T α j = 3 ∧ a_V α = nI (va_up (a_F α) (a_c α) (a_F α (a_c α) + m) j) ∧ j + 1 ≠ a_c α) ∨ (a_T α j = 4 ∧ j + 1 = a_c α)
      rw [up_ne e, up_ne (by omega)]
      exact z
  · rcases w.2.2.2.2.2 with z | ⟨j, hj, z1, z2⟩
    · exact Or.inl z
    · refine Or.inr ⟨j, hj, ?_, z2⟩
      show a_V α = nI (va_up (a_F α) (a_c α) (a_F α (a_c α) + m) j)
      rw [up_ne (by omega)]; exact z1
theorem WF.grow0 {n : Nat} {α : AS} (w : WF n α) {m : Nat} (hno : noTop α) (h2 : 2 ≤ m) (hm : a_F α (a_c α) + m ≤ n) : WF n (a_grow0 α m) := by
  have hn := w.2.2.1
  have last : ∀ j, j + 1 = a_c α → a_T α j = 0 := fun j hj => by
    rcases hno with z | ⟨t, ht, z⟩
    · omega
    · have : t = j := by omega
      subst this; exact z
  refine ⟨w.ge.grow0 h2 (by omega), ?_, hn, fun j hj => ?_, fun j hj => ?_, ?_⟩
  · show va_up (a_F α) (a_c α + 1) (a_F α (a_c α) + m) (a_c α + 1) ≤ n
    rw [up_at]; exact hm
  · have hj : j < a_c α + 1 := hj
    unfold TO
    show va_up (a_T α) (a_c α) 4 j = 0 ∨ (va_up (a_T α) (a_c α) 4 j = 1 ∧ va_up (a_S α) (a_c α) m j < 16 ∧ j + 1 ≠ a_c α + 1) ∨ (va_up (a_T α) (a_c α) 4 j = 2 ∧ 16 ≤ va_up (a_S α) (a_c α) m j ∧ j + 1 ≠ a_c α + 1) ∨ (va_up (a_T α) (a_c α) 4 j = 3 ∧ a_V α = nI (va_up (a_F α) (a_c α + 1) (a_F α (a_c α) + m) j) ∧ j + 1 ≠ a_c α + 1) ∨ (va_up (a_T α) (a_c α) 4 j = 4 ∧ j + 1 = a_c α + 1)
    by_cases e : j = a_c α
    · subst e
      rw [up_at]
      exact Or.inr (Or.inr (Or.inr (Or.inr ⟨rfl, rfl⟩)))
    · rw [up_ne e, up_ne e, up_ne (by omega)]
      rcases w.to (show j < a_c α by omega) with z | z | z | z | z
      · exact Or.inl z
      · exact Or.inr (Or.inl ⟨z.1, z.2.1, by omega⟩)
      · exact Or.inr (Or.inr (Or.inl ⟨z.1, z.2.1, by omega⟩))
      · exact Or.inr (Or.inr (Or.inr (Or.inl ⟨z.1, z.2.1, by omega⟩)))
      · exact Or.inl (last j z.2)
  · have hj : j + 1 < a_c α + 1 := hj
    show va_up (a_T α) (a_c α) 4 j = 0 ∨ va_up (a_T α) (a_c α) 4 (j + 1) = 0
    rw [up_ne (by omega)]
    by_cases e : j + 1 = a_c α
    · exact Or.inl (last j e)
    · rw [up_ne e]
      exact w.2.2.2.2.1 j (by omega)
  · rcases w.2.2.2.2.2 with z | ⟨j, hj, z1, z2⟩
    · exact Or.inl z
    · refine Or.inr ⟨j, show j < a_c α + 1 by omega, ?_, ?_⟩
      · show a_V α = nI (va_up (a_F α) (a_c α + 1) (a_F α (a_c α) + m) j)
        rw [up_ne (by omega)]; exact z1
      · show va_up (a_T α) (a_c α) 4 j = 3
        rw [up_ne (by omega)]; exact z2
