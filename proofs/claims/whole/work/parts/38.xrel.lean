/-- the rows while chunk k is lifted out of them; h: the victim was lifted -/
def XG (n : Nat) (α : AS) (k : Nat) (h : Bool) (σ : XS) : Prop :=
  XC n α (upd (x_t σ) (a_F α k) (a_T α k)) (upd (x_z σ) (a_F α k) (nI (a_S α k))) (x_r σ) ∧ x_t σ (a_F α k) = -1 ∧ x_en σ = nI (a_F α (a_c α)) ∧ x_la σ = a_K α ∧ (∀ a, a < a_F α (a_c α) → x_u σ a = a_un α a) ∧ x_vi σ = (if h = true then -1 else a_V α) ∧
  (k + 1 = a_c α → x_tp σ = -1) ∧ (k + 1 ≠ a_c α → (∀ q, q + 1 = a_c α → ¬ a_T α q = 0 → x_tp σ = nI (a_F α q)) ∧ (noTop α → x_tp σ = -1))
theorem XG.fin {n : Nat} {α : AS} {k : Nat} {b : Bool} {σ : XS} (h : XG n α k b σ) (g : GE α) (hk : k < a_c α) : XR n (gFin α k b) (if a_F α k + a_S α k = a_F α (a_c α) then xLay4 σ (a_F α k) (a_S α k) else if b = true then xLay3 σ (a_F α k) (a_S α k) else xLayS σ (a_F α k) (a_S α k)) := by
  obtain ⟨u, z, t, r, la, en, vi, tp⟩ := σ
  obtain ⟨hX, ht, hen, hla, hu, hvi, htp1, htp2⟩ := h
  have hF := g.2.1 k hk
  unfold gFin
  by_cases q : a_F α k + a_S α k = a_F α (a_c α)
  · rw [if_pos q, if_pos q]
    have kc : k + 1 = a_c α := g.inj (by omega) (Nat.le_refl _) (by rw [hF.1]; exact q)
    refine ⟨?_, hen, hvi, hla, fun q2 hq2 hT => ?_, fun hno => ?_, hu⟩
    · refine XC.up hX g hk (v := 4) rfl (fun _ _ => rfl) ?_ ?_ (fun y => absurd y (by decide)) (fun a ha => ?_) (fun a ha => ?_) (fun _ _ => rfl)
      · exact ud_at
      · exact ud_at
      · show upd t (a_F α k) 4 a = upd t (a_F α k) (a_T α k) a
        rw [ud_ne ha, ud_ne ha]
      · rfl
    · have hq2 : q2 + 1 = a_c α := hq2
      have : q2 = k := by omega
      subst this; rfl
    · rcases hno with y | ⟨q2, hq2, y⟩
      · have y : a_c α = 0 := y
        omega
      · have hq2 : q2 + 1 = a_c α := hq2
        have : q2 = k := by omega
        subst this
        have y : va_up (a_T α) q2 4 q2 = 0 := y
        rw [up_at] at y; exact absurd y (by decide)
  · rw [if_neg q, if_neg q]
    have kc : k + 1 ≠ a_c α := fun e => q (by rw [← hF.1, e])
    have tpk := htp2 kc
    cases b with
    | true =>
      rw [if_pos rfl, if_pos rfl]
      refine ⟨?_, hen, rfl, hla, fun q2 hq2 hT => ?_, fun hno => ?_, hu⟩
      · refine XC.up hX g hk (v := 3) rfl (fun _ _ => rfl) ?_ ?_ (fun y => absurd y (by decide)) (fun a ha => ?_) (fun a ha => ?_) (fun _ _ => rfl)
        · exact ud_at
        · exact ud_at
        · show upd t (a_F α k) 3 a = upd t (a_F α k) (a_T α k) a
          rw [ud_ne ha, ud_ne ha]
        · rfl
      · have hq2 : q2 + 1 = a_c α := hq2
        have hT : ¬ va_up (a_T α) k 3 q2 = 0 := hT
        rw [up_ne (by omega)] at hT
        exact tpk.1 q2 hq2 hT
      · refine tpk.2 ?_
        rcases hno with y | ⟨q2, hq2, y⟩
        · exact Or.inl y
        · have hq2 : q2 + 1 = a_c α := hq2
          have y : va_up (a_T α) k 3 q2 = 0 := y
          rw [up_ne (by omega)] at y
          exact Or.inr ⟨q2, hq2, y⟩
    | false =>
      rw [if_neg (by decide), if_neg (by decide)]
      refine ⟨?_, hen, hvi, ?_, fun q2 hq2 hT => ?_, fun hno => ?_, hu⟩
      · refine XC.up hX g hk (v := a_code (a_S α k)) rfl (fun j hj => up_ne hj) ?_ ?_ (fun _ => ?_) (fun a ha => ?_) (fun a ha => ?_) (fun a ha => ?_)
        · exact ud_at
        · exact ud_at
        · show upd r (a_F α k) (la + 1) (a_F α k) = va_up (a_C α) k (a_K α + 1) k
          rw [ud_at, up_at, show la = a_K α from hla]
        · show upd t (a_F α k) (a_code (a_S α k)) a = upd t (a_F α k) (a_T α k) a
          rw [ud_ne ha, ud_ne ha]
        · rfl
        · exact ud_ne ha
      · show la + 1 = a_K α + 1
        rw [show la = a_K α from hla]
      · have hq2 : q2 + 1 = a_c α := hq2
        have hT : ¬ va_up (a_T α) k (a_code (a_S α k)) q2 = 0 := hT
        rw [up_ne (by omega)] at hT
        exact tpk.1 q2 hq2 hT
      · refine tpk.2 ?_
        rcases hno with y | ⟨q2, hq2, y⟩
        · exact Or.inl y
        · have hq2 : q2 + 1 = a_c α := hq2
          have y : va_up (a_T α) k (a_code (a_S α k)) q2 = 0 := y
          rw [up_ne (by omega)] at y
          exact Or.inr ⟨q2, hq2, y⟩
theorem X_rel95 {n : Nat} {α : AS} {k : Nat} {b : Bool} (lim : Int32) {σ : XS} (h : XG n α k b σ) (g : GE α) (hk : k < a_c α) (hE : a_F α (a_c α) ≤ n) (hn : n ≤ 512) {post : XS → Prop} (hp : ∀ σ', XR n (gFin α k b) σ' → post σ') : wX_release_95 n lim σ (bI b) (nI (a_F α k)) (nI (a_S α k)) post := by
  have f := h.fin g hk
  have l := g.lt k (a_c α) hk (Nat.le_refl _)
  unfold wX_release_95
  rw [h.2.2.1, nI_add, s_eq (by omega) (by omega)]
  refine ⟨fun q => ?_, fun q => ?_⟩
  · rw [if_neg q] at f
    cases b with
    | true =>
      rw [if_pos rfl] at f
      exact ⟨fun z => absurd z (by decide), fun _ => X_lay lim 3 (by omega) (by omega) (by omega) (by decide) (hp _ f)⟩
    | false =>
      rw [if_neg (by decide)] at f
      exact ⟨fun _ => X_lay lim 2 (by omega) (by omega) (by omega) (by decide) (hp _ f), fun z => absurd rfl z⟩
  · rw [if_pos q] at f
    exact X_lay lim 4 (by omega) (by omega) (by omega) (by decide) (hp _ f)
/-- lift of a chunk in front of, or behind, the one that is lifted -/
theorem XG.front {n : Nat} {α : AS} {k : Nat} {b : Bool} {σ : XS} (h : XG n α k b σ) (g : GE α) (hk : k < a_c α) (h0 : 0 < k) (hT : ¬ a_T α (k - 1) = 0) (hV : b = true → ¬ a_V α = nI (a_F α (k - 1))) : XG n (a_join α (k - 1)) (k - 1) (b || decide (a_V α = nI (a_F α (k - 1)))) (xLift σ (a_F α (k - 1))) := by
  obtain ⟨u, z, t, r, la, en, vi, tp⟩ := σ
  obtain ⟨hX, ht, hen, hla, hu, hvi, htp1, htp2⟩ := h
  have l := g.lt (k - 1) k (by omega) (by omega)
  have lk := g.le (show k - 1 ≤ a_c α by omega)
  have e1 : k - 1 + 1 = k := by omega
  have eF : a_F (a_join α (k - 1)) (k - 1) = a_F α (k - 1) := a_del_lo (Nat.le_refl _)
  have eT : a_T (a_join α (k - 1)) (k - 1) = a_T α (k - 1) := a_del_lo (Nat.le_refl _)
  have eS : a_S (a_join α (k - 1)) (k - 1) = a_S α (k - 1) + a_S α k := by
    have : a_S (a_join α (k - 1)) (k - 1) = a_S α (k - 1) + a_S α (k - 1 + 1) := up_at
    rw [e1] at this; exact this
  have eE : a_F (a_join α (k - 1)) (a_c (a_join α (k - 1))) = a_F α (a_c α) := by
    show a_del (a_F α) (k - 1) (a_c α - 1) = _
    rw [a_del_hi (by omega), show a_c α - 1 + 1 = a_c α by omega]
  have tne : ¬ nI (a_F α (k - 1)) = tp := by
    intro e
    by_cases kc : k + 1 = a_c α
    · rw [show tp = -1 from htp1 kc] at e
      exact absurd e (s_m1 (by omega))
    · have q := htp2 kc
      by_cases t0 : a_T α (a_c α - 1) = 0
      · rw [show tp = -1 from q.2 (Or.inr ⟨a_c α - 1, by omega, t0⟩)] at e
        exact absurd e (s_m1 (by omega))
      · rw [show tp = _ from q.1 (a_c α - 1) (by omega) t0] at e
        have l2 := g.le (show a_c α - 1 ≤ a_c α by omega)
        have := g.inj (show k - 1 ≤ a_c α by omega) (show a_c α - 1 ≤ a_c α by omega) ((s_eq (by omega) (by omega)).mp e)
        omega
  refine ⟨?_, ?_, ?_, hla, ?_, ?_, fun kc => ?_, fun kc => ⟨fun q hq hTq => ?_, fun hno => ?_⟩⟩
  · rw [eF, eT, eS]
    have jx := XC.join (k := k - 1) (V' := a_V α) (K' := a_K α) (un' := a_un α) (t' := upd (upd t (a_F α (k - 1)) (-1)) (a_F α (k - 1)) (a_T α (k - 1))) (z' := upd (upd z (a_F α (k - 1)) 0) (a_F α (k - 1)) (nI (a_S α (k - 1) + a_S α k))) (r' := r) hX g (by omega) ?_ ?_ ?_ ?_ (fun _ _ => rfl)
    · exact jx
    · rw [e1, ud_ne (by omega), ud_ne (by omega)]; exact ht
    · rw [e1, ud_at]
    · intro a ha
      rw [e1] at ha
      by_cases y : a = a_F α (k - 1)
      · subst y
        rw [ud_at]
        exact (hX.t (show k - 1 < a_c α by omega)).symm
      · rw [ud_ne y, ud_ne y]
        show t a = upd t (a_F α k) (a_T α k) a
        rw [ud_ne ha]
    · intro a ha1 ha2
      rw [e1] at ha2
      rw [ud_ne ha1, ud_ne ha1]
      show z a = upd z (a_F α k) (nI (a_S α k)) a
      rw [ud_ne ha2]
  · rw [eF]; exact ud_at
  · rw [eE]; exact hen
  · intro a ha
    rw [eE] at ha
    exact hu a ha
  · show (if nI (a_F α (k - 1)) = vi then -1 else vi) = if (b || decide (a_V α = nI (a_F α (k - 1)))) = true then -1 else a_V α
    cases b with
    | true =>
      have ev : vi = -1 := hvi
      rw [ev, Bool.true_or, if_pos rfl, if_neg (s_m1 (by omega))]
    | false =>
      have ev : vi = a_V α := hvi
      rw [ev, Bool.false_or]
      by_cases y : a_V α = nI (a_F α (k - 1))
      · rw [if_pos y.symm, if_pos (decide_eq_true y)]
      · rw [if_neg (fun e => y e.symm), if_neg (fun e => y (of_decide_eq_true e))]
  · have kc : k - 1 + 1 = a_c α - 1 := kc
    show (if nI (a_F α (k - 1)) = tp then -1 else tp) = -1
    rw [if_neg tne]
    exact htp1 (by omega)
  · have kc : k - 1 + 1 ≠ a_c α - 1 := kc
    have hq : q + 1 = a_c α - 1 := hq
    have hTq : ¬ a_del (a_T α) (k - 1) q = 0 := hTq
    show (if nI (a_F α (k - 1)) = tp then -1 else tp) = nI (a_del (a_F α) (k - 1) q)
    rw [if_neg tne]
    rw [a_del_hi (by omega)] at hTq ⊢
    exact (htp2 (by omega)).1 (q + 1) (by omega) hTq
  · have kc : k - 1 + 1 ≠ a_c α - 1 := kc
    show (if nI (a_F α (k - 1)) = tp then -1 else tp) = -1
    rw [if_neg tne]
    refine (htp2 (by omega)).2 ?_
    rcases hno with y | ⟨q, hq, y⟩
    · have y : a_c α - 1 = 0 := y
      omega
    · have hq : q + 1 = a_c α - 1 := hq
      have y : a_del (a_T α) (k - 1) q = 0 := y
      rw [a_del_hi (by omega)] at y
      exact Or.inr ⟨q + 1, by omega, y⟩
theorem XG.back {n : Nat} {α : AS} {k : Nat} {σ : XS} (h : XG n α k false σ) (g : GE α) (hk : k + 1 < a_c α) (hT : ¬ a_T α (k + 1) = 0) : XG n (a_join α k) k (decide (a_V α = nI (a_F α (k + 1)))) (xLift σ (a_F α (k + 1))) := by
  obtain ⟨u, z, t, r, la, en, vi, tp⟩ := σ
  obtain ⟨hX, ht, hen, hla, hu, hvi, htp1, htp2⟩ := h
  have l := g.lt k (k + 1) (by omega) (by omega)
  have lk := g.le (show k + 1 ≤ a_c α by omega)
  have eF : a_F (a_join α k) k = a_F α k := a_del_lo (Nat.le_refl _)
  have eT : a_T (a_join α k) k = a_T α k := a_del_lo (Nat.le_refl _)
  have eS : a_S (a_join α k) k = a_S α k + a_S α (k + 1) := up_at
  have eE : a_F (a_join α k) (a_c (a_join α k)) = a_F α (a_c α) := by
    show a_del (a_F α) k (a_c α - 1) = _
    rw [a_del_hi (by omega), show a_c α - 1 + 1 = a_c α by omega]
  have tp2 := htp2 (by omega)
  refine ⟨?_, ?_, ?_, hla, ?_, ?_, fun kc => ?_, fun kc => ⟨fun q hq hTq => ?_, fun hno => ?_⟩⟩
  · rw [eF, eT, eS]
    have jx := XC.join (k := k) (V' := a_V α) (K' := a_K α) (un' := a_un α) (t' := upd (upd t (a_F α (k + 1)) (-1)) (a_F α k) (a_T α k)) (z' := upd (upd z (a_F α (k + 1)) 0) (a_F α k) (nI (a_S α k + a_S α (k + 1)))) (r' := r) hX g hk ?_ ?_ ?_ ?_ (fun _ _ => rfl)
    · exact jx
    · rw [ud_ne (by omega), ud_at]
    · rw [ud_at]
    · intro a ha
      by_cases y : a = a_F α k
      · subst y; rw [ud_at]; exact ud_at.symm
      · rw [ud_ne y, ud_ne ha]
        show t a = upd t (a_F α k) (a_T α k) a
        rw [ud_ne y]
    · intro a ha1 ha2
      rw [ud_ne ha1, ud_ne ha2]
      show z a = upd z (a_F α k) (nI (a_S α k)) a
      rw [ud_ne ha1]
  · rw [eF]
    show upd t (a_F α (k + 1)) (-1) (a_F α k) = -1
    rw [ud_ne (by omega)]; exact ht
  · rw [eE]; exact hen
  · intro a ha
    rw [eE] at ha
    exact hu a ha
  · show (if nI (a_F α (k + 1)) = vi then -1 else vi) = if decide (a_V α = nI (a_F α (k + 1))) = true then -1 else a_V α
    have ev : vi = a_V α := hvi
    rw [ev]
    by_cases y : a_V α = nI (a_F α (k + 1))
    · rw [if_pos y.symm, if_pos (decide_eq_true y)]
    · rw [if_neg (fun e => y e.symm), if_neg (fun e => y (of_decide_eq_true e))]
  · have kc : k + 1 = a_c α - 1 := kc
    show (if nI (a_F α (k + 1)) = tp then -1 else tp) = -1
    rw [if_pos (show nI (a_F α (k + 1)) = tp from (tp2.1 (k + 1) (by omega) hT).symm)]
  · have kc : k + 1 ≠ a_c α - 1 := kc
    have hq : q + 1 = a_c α - 1 := hq
    have hTq : ¬ a_del (a_T α) k q = 0 := hTq
    show (if nI (a_F α (k + 1)) = tp then -1 else tp) = nI (a_del (a_F α) k q)
    rw [a_del_hi (by omega)] at hTq ⊢
    have et := tp2.1 (q + 1) (by omega) hTq
    rw [show tp = _ from et, if_neg]
    intro e
    have l2 := g.le (show q + 1 ≤ a_c α by omega)
    have := g.inj (show k + 1 ≤ a_c α by omega) (show q + 1 ≤ a_c α by omega) ((s_eq (by omega) (by omega)).mp e)
    omega
  · have kc : k + 1 ≠ a_c α - 1 := kc
    have et : tp = -1 := by
      refine tp2.2 ?_
      rcases hno with y | ⟨q, hq, y⟩
      · have y : a_c α - 1 = 0 := y
        omega
      · have hq : q + 1 = a_c α - 1 := hq
        have y : a_del (a_T α) k q = 0 := y
        rw [a_del_hi (by omega)] at y
        exact Or.inr ⟨q + 1, by omega, y⟩
    show (if nI (a_F α (k + 1)) = tp then -1 else tp) = -1
    rw [et]
    split <;> rfl
