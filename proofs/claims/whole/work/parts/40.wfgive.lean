/-- well formed but for chunk k; h: the victim was a part of it -/
def WX (n : Nat) (α : AS) (k : Nat) (h : Bool) : Prop :=
  GE α ∧ a_F α (a_c α) ≤ n ∧ n ≤ 512 ∧ k < a_c α ∧ (∀ j, j < a_c α → j ≠ k → TO α j) ∧ (∀ j, j + 1 < a_c α → j ≠ k → j + 1 ≠ k → a_T α j = 0 ∨ a_T α (j + 1) = 0) ∧
  (h = true → ∀ j, j < a_c α → j ≠ k → ¬ a_T α j = 3) ∧ (h = false → a_V α = -1 ∨ ∃ j, j < a_c α ∧ j ≠ k ∧ a_V α = nI (a_F α j) ∧ a_T α j = 3)
theorem WX.fin {n : Nat} {α : AS} {k : Nat} {h : Bool} (w : WX n α k h) (hnx : k + 1 < a_c α → a_T α (k + 1) = 0) (hpv : 0 < k → a_T α (k - 1) = 0) : WF n (gFin α k h) := by
  obtain ⟨g, hE, hn, hk, hto, hadj, hv1, hv2⟩ := w
  have hF := g.2.1 k hk
  have adj : ∀ (v : Int32) (j : Nat), j + 1 < a_c α → va_up (a_T α) k v j = 0 ∨ va_up (a_T α) k v (j + 1) = 0 := by
    intro v j hj
    rcases (show j = k ∨ j + 1 = k ∨ (j ≠ k ∧ j + 1 ≠ k) by omega) with e | e | ⟨e1, e2⟩
    · subst e
      rw [up_ne (show j + 1 ≠ j by omega)]; exact Or.inr (hnx hj)
    · rw [up_ne (show j ≠ k by omega)]
      have := hpv (by omega)
      rw [show k - 1 = j by omega] at this
      exact Or.inl this
    · rw [up_ne e1, up_ne e2]; exact hadj j hj e1 e2
  unfold gFin
  by_cases q : a_F α k + a_S α k = a_F α (a_c α)
  · rw [if_pos q]
    have kc : k + 1 = a_c α := g.inj (by omega) (Nat.le_refl _) (by rw [hF.1]; exact q)
    refine ⟨g, hE, hn, fun j hj => ?_, adj 4, ?_⟩
    · have hj : j < a_c α := hj
      by_cases e : j = k
      · subst e; exact Or.inr (Or.inr (Or.inr (Or.inr ⟨up_at, kc⟩)))
      · have t := hto j hj e
        unfold TO at t ⊢
        rw [show a_T (a_sT (a_sV α (if h = true then -1 else a_V α)) k 4) j = a_T α j from up_ne e]
        rcases t with t | t | t | t | t
        · exact Or.inl t
        · exact Or.inr (Or.inl t)
        · exact Or.inr (Or.inr (Or.inl t))
        · refine Or.inr (Or.inr (Or.inr (Or.inl ⟨t.1, ?_, t.2.2⟩)))
          show (if h = true then -1 else a_V α) = nI (a_F α j)
          cases h with
          | true => exact absurd t.1 (hv1 rfl j hj e)
          | false => exact t.2.1
        · exact Or.inr (Or.inr (Or.inr (Or.inr t)))
    · cases h with
      | true => exact Or.inl rfl
      | false =>
        rcases hv2 rfl with z | ⟨j, hj, e, z1, z2⟩
        · exact Or.inl z
        · refine Or.inr ⟨j, hj, z1, ?_⟩
          show va_up (a_T α) k 4 j = 3
          rw [up_ne e]; exact z2
  · rw [if_neg q]
    have kc : k + 1 ≠ a_c α := fun e => q (by rw [← hF.1, e])
    cases h with
    | true =>
      rw [if_pos rfl]
      refine ⟨g, hE, hn, fun j hj => ?_, adj 3, Or.inr ⟨k, hk, rfl, up_at⟩⟩
      have hj : j < a_c α := hj
      by_cases e : j = k
      · subst e; exact Or.inr (Or.inr (Or.inr (Or.inl ⟨up_at, rfl, kc⟩)))
      · have t := hto j hj e
        unfold TO at t ⊢
        rw [show a_T (a_sT (a_sV α (nI (a_F α k))) k 3) j = a_T α j from up_ne e]
        rcases t with t | t | t | t | t
        · exact Or.inl t
        · exact Or.inr (Or.inl t)
        · exact Or.inr (Or.inr (Or.inl t))
        · exact absurd t.1 (hv1 rfl j hj e)
        · exact Or.inr (Or.inr (Or.inr (Or.inr t)))
    | false =>
      rw [if_neg (by decide)]
      refine ⟨g, hE, hn, fun j hj => ?_, adj _, ?_⟩
      · have hj : j < a_c α := hj
        by_cases e : j = k
        · subst e
          unfold TO
          rw [show a_T (a_stor2 α j (a_code (a_S α j))) j = a_code (a_S α j) from up_at]
          rcases code_or (a_S α j) with z | z
          · exact Or.inr (Or.inl ⟨z.1, z.2, kc⟩)
          · exact Or.inr (Or.inr (Or.inl ⟨z.1, z.2, kc⟩))
        · have t := hto j hj e
          unfold TO at t ⊢
          rw [show a_T (a_stor2 α k (a_code (a_S α k))) j = a_T α j from up_ne e]
          exact t
      · rcases hv2 rfl with z | ⟨j, hj, e, z1, z2⟩
        · exact Or.inl z
        · refine Or.inr ⟨j, hj, z1, ?_⟩
          show va_up (a_T α) k (a_code (a_S α k)) j = 3
          rw [up_ne e]; exact z2
/-- two chunks k and k + 1 become one, of which one was out of order -/
theorem WX.join {n : Nat} {α : AS} {k m : Nat} {h b : Bool} (w : WX n α m h) (hk : k + 1 < a_c α) (hm : m = k ∨ m = k + 1) (hb1 : b = true → ∀ j, j < a_c α → j ≠ k → j ≠ k + 1 → ¬ a_T α j = 3) (hb2 : b = false → a_V α = -1 ∨ ∃ j, j < a_c α ∧ j ≠ k ∧ j ≠ k + 1 ∧ a_V α = nI (a_F α j) ∧ a_T α j = 3) : WX n (a_join α k) k b := by
  obtain ⟨g, hE, hn, hmc, hto, hadj, hv1, hv2⟩ := w
  have lo : ∀ j, j < k → a_F (a_join α k) j = a_F α j ∧ a_S (a_join α k) j = a_S α j ∧ a_T (a_join α k) j = a_T α j := fun j hj => by
    refine ⟨a_del_lo (by omega), ?_, a_del_lo (by omega)⟩
    show va_up (a_del (a_S α) k) k _ j = _
    rw [up_ne (by omega), a_del_lo (by omega)]
  have hi : ∀ j, k < j → a_F (a_join α k) j = a_F α (j + 1) ∧ a_S (a_join α k) j = a_S α (j + 1) ∧ a_T (a_join α k) j = a_T α (j + 1) := fun j hj => by
    refine ⟨a_del_hi hj, ?_, a_del_hi hj⟩
    show va_up (a_del (a_S α) k) k _ j = _
    rw [up_ne (by omega), a_del_hi hj]
  refine ⟨g.join hk, ?_, hn, show k < a_c α - 1 by omega, fun j hj e => ?_, fun j hj e1 e2 => ?_, fun hb j hj e => ?_, fun hb => ?_⟩
  · show a_del (a_F α) k (a_c α - 1) ≤ n
    rw [a_del_hi (by omega), show a_c α - 1 + 1 = a_c α by omega]
    exact hE
  · have hj : j < a_c α - 1 := hj
    unfold TO
    rcases (show j < k ∨ k < j by omega) with q | q
    · obtain ⟨e1, e2, e3⟩ := lo j q
      rw [e1, e2, e3]
      have t := hto j (by omega) (by omega)
      show a_T α j = 0 ∨ (a_T α j = 1 ∧ a_S α j < 16 ∧ j + 1 ≠ a_c α - 1) ∨ (a_T α j = 2 ∧ 16 ≤ a_S α j ∧ j + 1 ≠ a_c α - 1) ∨ (a_T α j = 3 ∧ a_V α = nI (a_F α j) ∧ j + 1 ≠ a_c α - 1) ∨ (a_T α j = 4 ∧ j + 1 = a_c α - 1)
      rcases t with t | t | t | t | t
      · exact Or.inl t
      · exact Or.inr (Or.inl ⟨t.1, t.2.1, by omega⟩)
      · exact Or.inr (Or.inr (Or.inl ⟨t.1, t.2.1, by omega⟩))
      · exact Or.inr (Or.inr (Or.inr (Or.inl ⟨t.1, t.2.1, by omega⟩)))
      · omega
    · obtain ⟨e1, e2, e3⟩ := hi j q
      rw [e1, e2, e3]
      have t := hto (j + 1) (by omega) (by omega)
      show a_T α (j + 1) = 0 ∨ (a_T α (j + 1) = 1 ∧ a_S α (j + 1) < 16 ∧ j + 1 ≠ a_c α - 1) ∨ (a_T α (j + 1) = 2 ∧ 16 ≤ a_S α (j + 1) ∧ j + 1 ≠ a_c α - 1) ∨ (a_T α (j + 1) = 3 ∧ a_V α = nI (a_F α (j + 1)) ∧ j + 1 ≠ a_c α - 1) ∨ (a_T α (j + 1) = 4 ∧ j + 1 = a_c α - 1)
      rcases t with t | t | t | t | t
      · exact Or.inl t
      · exact Or.inr (Or.inl ⟨t.1, t.2.1, by omega⟩)
      · exact Or.inr (Or.inr (Or.inl ⟨t.1, t.2.1, by omega⟩))
      · exact Or.inr (Or.inr (Or.inr (Or.inl ⟨t.1, t.2.1, by omega⟩)))
      · exact Or.inr (Or.inr (Or.inr (Or.inr ⟨t.1, by omega⟩)))
  · have hj : j + 1 < a_c α - 1 := hj
    rcases (show j + 1 < k ∨ k < j by omega) with q | q
    · rw [(lo j (by omega)).2.2, (lo (j + 1) q).2.2]
      exact hadj j (by omega) (by omega) (by omega)
    · rw [(hi j q).2.2, (hi (j + 1) (by omega)).2.2]
      exact hadj (j + 1) (by omega) (by omega) (by omega)
  · have hj : j < a_c α - 1 := hj
    rcases (show j < k ∨ k < j by omega) with q | q
    · rw [(lo j q).2.2]; exact hb1 hb j (by omega) (by omega) (by omega)
    · rw [(hi j q).2.2]; exact hb1 hb (j + 1) (by omega) (by omega) (by omega)
  · rcases hb2 hb with z | ⟨j, hj, e1, e2, z1, z2⟩
    · exact Or.inl z
    · rcases (show j < k ∨ k + 1 < j by omega) with q | q
      · refine Or.inr ⟨j, show j < a_c α - 1 by omega, by omega, ?_, ?_⟩
        · rw [(lo j q).1]; exact z1
        · rw [(lo j q).2.2]; exact z2
      · have h1 := hi (j - 1) (by omega)
        rw [show j - 1 + 1 = j by omega] at h1
        refine Or.inr ⟨j - 1, show j - 1 < a_c α - 1 by omega, by omega, ?_, ?_⟩
        · rw [h1.1]; exact z1
        · rw [h1.2.2]; exact z2
theorem WX.k58 {n : Nat} {α : AS} {k : Nat} {h : Bool} (w : WX n α k h) (hnx : k + 1 < a_c α → a_T α (k + 1) = 0) (hx : h = true → 0 < k → ¬ a_V α = nI (a_F α (k - 1))) (hV3 : 0 < k → a_V α = nI (a_F α (k - 1)) → a_T α (k - 1) = 3) (hu : ∀ i j, i < a_c α → j < a_c α → i ≠ k → j ≠ k → a_T α i = 3 → a_T α j = 3 → i = j) : WF n (g58 α k h) := by
  obtain ⟨g, hE, hn, hk, hto, hadj, hv1, hv2⟩ := id w
  unfold g58
  by_cases q : k = 0 ∨ a_T α (k - 1) = 0
  · rw [if_pos q]
    exact w.fin hnx (fun z => q.elim (fun y => by omega) id)
  · rw [if_neg q]
    have k0 : 0 < k := Nat.pos_of_ne_zero fun z => q (Or.inl z)
    have qt : ¬ a_T α (k - 1) = 0 := fun z => q (Or.inr z)
    have e1 : k - 1 + 1 = k := by omega
    refine WX.fin (WX.join (k := k - 1) w (by omega) (Or.inr e1.symm) (fun hb j hj x1 x2 x3 => ?_) (fun hb => ?_)) (fun y => ?_) (fun y => ?_)
    · rw [e1] at x2
      cases h with
      | true => exact hv1 rfl j hj x2 x3
      | false =>
        rw [Bool.false_or] at hb
        have v := of_decide_eq_true hb
        exact x1 (hu j (k - 1) hj (by omega) x2 (by omega) x3 (hV3 k0 v))
    · cases h with
      | true => rw [Bool.true_or] at hb; exact absurd hb (by decide)
      | false =>
        rw [Bool.false_or] at hb
        have v := of_decide_eq_false hb
        rcases hv2 rfl with z | ⟨j, hj, x1, x2, x3⟩
        · exact Or.inl z
        · exact Or.inr ⟨j, hj, fun e => v (by rw [← e]; exact x2), by omega, x2, x3⟩
    · have y : k - 1 + 1 < a_c α - 1 := y
      show a_del (a_T α) (k - 1) (k - 1 + 1) = 0
      rw [a_del_hi (by omega), e1]
      exact hnx (by omega)
    · have : a_T (a_join α (k - 1)) (k - 1 - 1) = a_T α (k - 1 - 1) := a_del_lo (by omega)
      rw [this]
      rcases hadj (k - 1 - 1) (by omega) (by omega) (by omega) with z | z
      · exact z
      · rw [show k - 1 - 1 + 1 = k - 1 by omega] at z; exact absurd z qt
theorem WF.give {n : Nat} {α : AS} (w : WF n α) {k : Nat} (hk : k < a_c α) (hT0 : a_T α k = 0) : WF n (gGive α k) := by
  have g := w.ge
  have lk := g.le (Nat.le_of_lt hk)
  have w0 : WX n (a_sT α k 5) k false := by
    refine ⟨g, w.2.1, w.2.2.1, hk, fun j hj e => ?_, fun j hj e1 e2 => ?_, fun z => absurd z (by decide), fun _ => ?_⟩
    · have t := w.to hj
      unfold TO at t ⊢
      rw [show a_T (a_sT α k 5) j = a_T α j from up_ne e]
      exact t
    · show va_up (a_T α) k 5 j = 0 ∨ va_up (a_T α) k 5 (j + 1) = 0
      rw [up_ne e1, up_ne e2]
      exact w.2.2.2.2.1 j hj
    · rcases w.2.2.2.2.2 with z | ⟨j, hj, z1, z2⟩
      · exact Or.inl z
      · have e : j ≠ k := fun e => by rw [e, hT0] at z2; exact absurd z2 (by decide)
        refine Or.inr ⟨j, hj, e, z1, ?_⟩
        show va_up (a_T α) k 5 j = 3
        rw [up_ne e]; exact z2
  unfold gGive
  by_cases q : k + 1 < a_c α ∧ ¬ a_T α (k + 1) = 0
  · rw [if_pos q]
    have wj : WX n (a_join (a_sT α k 5) k) k (decide (a_V α = nI (a_F α (k + 1)))) := by
      refine WX.join (k := k) w0 q.1 (Or.inl rfl) (fun hb j hj x1 x2 x3 => ?_) (fun hb => ?_)
      · have v := of_decide_eq_true hb
        have x3 : va_up (a_T α) k 5 j = 3 := x3
        rw [up_ne x1] at x3
        exact x2 (w.vu hj q.1 x3 (w.v3 q.1 v))
      · have v := of_decide_eq_false hb
        rcases w.2.2.2.2.2 with z | ⟨j, hj, z1, z2⟩
        · exact Or.inl z
        · have e : j ≠ k := fun e => by rw [e, hT0] at z2; exact absurd z2 (by decide)
          refine Or.inr ⟨j, hj, e, fun e => v (by rw [← e]; exact z1), z1, ?_⟩
          show va_up (a_T α) k 5 j = 3
          rw [up_ne e]; exact z2
    have eF : ∀ j, j ≤ k → a_F (a_join (a_sT α k 5) k) j = a_F α j := fun j hj => a_del_lo hj
    have eT : ∀ j, j < k → a_T (a_join (a_sT α k 5) k) j = a_T α j := fun j hj => by
      show a_del (va_up (a_T α) k 5) k j = _
      rw [a_del_lo (by omega), up_ne (by omega)]
    have eT2 : ∀ j, k < j → a_T (a_join (a_sT α k 5) k) j = a_T α (j + 1) := fun j hj => by
      show a_del (va_up (a_T α) k 5) k j = _
      rw [a_del_hi hj, up_ne (by omega)]
    refine wj.k58 (fun y => ?_) (fun y y1 y2 => ?_) (fun y1 y2 => ?_) (fun i j hi hj x1 x2 y1 y2 => ?_)
    · have y : k + 1 < a_c α - 1 := y
      rw [eT2 _ (by omega)]
      rcases w.2.2.2.2.1 (k + 1) (by omega) with z | z
      · exact absurd z q.2
      · exact z
    · have v := of_decide_eq_true y
      rw [eF _ (by omega)] at y2
      have l2 := g.le (show k - 1 ≤ a_c α by omega)
      have l3 := g.le (show k + 1 ≤ a_c α by omega)
      have := g.inj (show k + 1 ≤ a_c α by omega) (show k - 1 ≤ a_c α by omega) ((s_eq (by omega) (by omega)).mp (v.symm.trans y2))
      omega
    · rw [eF _ (by omega)] at y2
      rw [eT _ (by omega)]
      exact w.v3 (by omega) y2
    · have hi : i < a_c α - 1 := hi
      have hj : j < a_c α - 1 := hj
      rcases (show i < k ∨ k < i by omega) with a | a <;> rcases (show j < k ∨ k < j by omega) with c | c
      · rw [eT _ a] at y1; rw [eT _ c] at y2; exact w.vu (by omega) (by omega) y1 y2
      · rw [eT _ a] at y1; rw [eT2 _ c] at y2
        have := w.vu (by omega) (by omega) y1 y2; omega
      · rw [eT2 _ a] at y1; rw [eT _ c] at y2
        have := w.vu (by omega) (by omega) y1 y2; omega
      · rw [eT2 _ a] at y1; rw [eT2 _ c] at y2
        have := w.vu (by omega) (by omega) y1 y2; omega
  · rw [if_neg q]
    have eT : ∀ j, j ≠ k → a_T (a_sT α k 5) j = a_T α j := fun j hj => up_ne hj
    refine w0.k58 (fun y => ?_) (fun y => absurd y (by decide)) (fun y1 y2 => ?_) (fun i j hi hj x1 x2 y1 y2 => ?_)
    · rw [eT _ (by omega)]
      exact Decidable.byContradiction fun z => q ⟨y, z⟩
    · rw [eT _ (by omega)]
      exact w.v3 (show k - 1 < a_c α by omega) y2
    · rw [eT _ x1] at y1; rw [eT _ x2] at y2
      exact w.vu hi hj y1 y2
