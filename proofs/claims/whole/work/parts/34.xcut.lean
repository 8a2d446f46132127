theorem X_cut {n : Nat} (lim : Int32) {σ : XS} {p S s : Nat} (v : Int32) (hz : x_z σ p = nI S) (hs : s ≤ S) (hS : 0 < S) (hp : p + S ≤ n) (hn : n < 100000) (hv5 : v = 0 ∨ v = 1 ∨ v = 2 ∨ v = 3 ∨ v = 4) {post : Int32 → XS → Prop} (h0 : S < s + 2 → post (nI p) (xLay0 (xLift σ p) p S)) (h1 : s + 2 ≤ S → post (nI p) (xLay (xLay0 (xLift σ p) p s) (p + s) (S - s) v)) : wX_cut n lim σ (nI p) (nI s) v post := by
  unfold wX_cut
  refine X_lift lim (by omega) hn ?_
  rw [hz, s_sub hs]
  refine ⟨fun q => ?_, fun q => ?_⟩
  · have q := (s_le (a := 2) (by omega) (by omega)).mp q
    refine X_lay lim 0 (by omega) hn (by omega) (Or.inl rfl) ?_
    rw [nI_add]
    exact X_lay lim v (by omega) hn (by omega) hv5 (h1 (by omega))
  · have q : ¬ 2 ≤ S - s := fun z => q ((s_le (a := 2) (by omega) (by omega)).mpr z)
    exact X_lay lim 0 (by omega) hn (by omega) (Or.inl rfl) (h0 (by omega))
theorem XR.tpne {n : Nat} {α : AS} {σ : XS} (h : XR n α σ) (g : GE α) {k : Nat} (hk : k < a_c α) (hT : a_T α k = 0 ∨ k + 1 ≠ a_c α) : ¬ nI (a_F α k) = x_tp σ := by
  intro e
  have lk := g.le (Nat.le_of_lt hk)
  rcases Nat.eq_zero_or_pos (a_c α) with z | z
  · omega
  · by_cases t0 : a_T α (a_c α - 1) = 0
    · rw [h.2.2.2.2.2.1 (Or.inr ⟨a_c α - 1, by omega, t0⟩)] at e
      exact absurd e (s_m1 (by omega))
    · rw [h.2.2.2.2.1 (a_c α - 1) (by omega) t0] at e
      have l2 := g.le (show a_c α - 1 ≤ a_c α by omega)
      have e := (s_eq (by omega) (by omega)).mp e
      have e := g.inj (Nat.le_of_lt hk) (show a_c α - 1 ≤ a_c α by omega) e
      rcases hT with y | y
      · rw [e] at y; exact t0 y
      · omega
/-- a chunk becomes used, whole -/
theorem XR.use {n : Nat} {α : AS} {σ : XS} (h : XR n α σ) (g : GE α) {k : Nat} (hk : k < a_c α) {V' : Int32} (hV : V' = if nI (a_F α k) = a_V α then -1 else a_V α) : XR n (a_sV (a_sT α k 0) V') (xLay0 (xLift σ (a_F α k)) (a_F α k) (a_S α k)) := by
  obtain ⟨u, z, t, r, la, en, vi, tp⟩ := σ
  have lk := g.le (Nat.le_of_lt hk)
  refine ⟨?_, h.2.1, ?_, h.2.2.2.1, fun q hq hT => ?_, fun hno => ?_, h.2.2.2.2.2.2⟩
  · refine XC.up h.1 g hk (v := 0) rfl (fun _ _ => rfl) ?_ ?_ (fun y => absurd y (by decide)) (fun a ha => ?_) (fun a ha => ?_) (fun _ _ => rfl)
    · exact ud_at
    · exact ud_at
    · show upd (upd t (a_F α k) (-1)) (a_F α k) 0 a = t a
      rw [ud_ne ha, ud_ne ha]
    · show upd (upd z (a_F α k) 0) (a_F α k) (nI (a_S α k)) a = z a
      rw [ud_ne ha, ud_ne ha]
  · show (if nI (a_F α k) = vi then -1 else vi) = V'
    rw [hV, show vi = a_V α from h.2.2.1]
  · have hq : q + 1 = a_c α := hq
    have hT : ¬ va_up (a_T α) k 0 q = 0 := hT
    show (if nI (a_F α k) = tp then -1 else tp) = nI (a_F α q)
    by_cases e : q = k
    · subst e; exact absurd up_at hT
    · rw [up_ne e] at hT
      rw [if_neg (show ¬ nI (a_F α k) = tp from h.tpne g hk (Or.inr (by omega)))]
      exact h.2.2.2.2.1 q hq hT
  · show (if nI (a_F α k) = tp then -1 else tp) = -1
    by_cases e : nI (a_F α k) = tp
    · rw [if_pos e]
    · rw [if_neg e]
      refine h.2.2.2.2.2.1 ?_
      rcases hno with y | ⟨q, hq, y⟩
      · exact Or.inl y
      · have hq : q + 1 = a_c α := hq
        have y : va_up (a_T α) k 0 q = 0 := y
        refine Or.inr ⟨q, hq, ?_⟩
        by_cases e2 : q = k
        · subst e2
          exact Decidable.byContradiction fun z => e (h.2.2.2.2.1 q hq z).symm
        · rw [up_ne e2] at y; exact y
/-- a chunk parted: used in front, v behind -/
theorem XR.part {n : Nat} {α : AS} {σ σ' : XS} (h : XR n α σ) (g : GE α) {k s : Nat} (hk : k < a_c α) (h2 : 2 ≤ s) (hs : s + 2 ≤ a_S α k) {v : Int32} {T' C' : Nat → Int32} {V' K' : Int32} (eT : T' = a_ins (va_up (a_T α) k 0) k v) (eC1 : ∀ j, j ≤ k → C' j = a_C α j) (eC2 : ∀ j, k + 1 < j → C' j = a_C α (j - 1))
    (ht : x_t σ' = upd (upd (x_t σ) (a_F α k) 0) (a_F α k + s) v) (hz : x_z σ' = upd (upd (x_z σ) (a_F α k) (nI s)) (a_F α k + s) (nI (a_S α k - s))) (hr : (v = 1 ∨ v = 2) → x_r σ' (a_F α k + s) = C' (k + 1)) (or : ∀ a, a ≠ a_F α k + s → x_r σ' a = x_r σ a) (e_en : x_en σ' = x_en σ) (e_vi : x_vi σ' = V') (e_la : x_la σ' = K') (e_u : x_u σ' = x_u σ)
    (e_tp : (v = 0 ∧ k + 1 = a_c α ∧ x_tp σ' = -1) ∨ (v = 4 ∧ k + 1 = a_c α ∧ x_tp σ' = nI (a_F α k + s)) ∨ (k + 1 ≠ a_c α ∧ x_tp σ' = if nI (a_F α k) = x_tp σ then -1 else x_tp σ)) :
    XR n (a_c α + 1, a_ins (a_F α) k (a_F α k + s), va_up (a_ins (a_S α) k (a_S α k - s)) k s, T', C', V', K', a_un α) σ' := by
  have lk := g.le (Nat.le_of_lt hk)
  have eE : a_ins (a_F α) k (a_F α k + s) (a_c α + 1) = a_F α (a_c α) := a_ins_hi (by omega)
  refine ⟨?_, ?_, e_vi, e_la, fun q hq hT => ?_, fun hno => ?_, fun a ha => ?_⟩
  · refine XC.part h.1 g hk h2 hs eT eC1 eC2 (v0 := 0) ?_ ?_ ?_ ?_ (by decide) hr (fun a h1 h3 => ?_) (fun a h1 h3 => ?_) (fun a h1 h3 => or a h3)
    · rw [ht, ud_ne (by omega), ud_at]
    · rw [ht, ud_at]
    · rw [hz, ud_ne (by omega), ud_at]
    · rw [hz, ud_at]
    · rw [ht, ud_ne h3, ud_ne h1]
    · rw [hz, ud_ne h3, ud_ne h1]
  · rw [e_en, h.2.1]
    show nI (a_F α (a_c α)) = nI (a_ins (a_F α) k (a_F α k + s) (a_c α + 1))
    rw [eE]
  · have hq : q + 1 = a_c α + 1 := hq
    have hT : ¬ T' q = 0 := hT
    show x_tp σ' = nI (a_ins (a_F α) k (a_F α k + s) q)
    rcases e_tp with ⟨y1, y2, y3⟩ | ⟨y1, y2, y3⟩ | ⟨y1, y2⟩
    · have : q = k + 1 := by omega
      subst this
      rw [eT, a_ins_at] at hT
      exact absurd y1 hT
    · have : q = k + 1 := by omega
      subst this
      rw [a_ins_at]; exact y3
    · rw [y2, if_neg (h.tpne g hk (Or.inr y1)), a_ins_hi (by omega)]
      rw [eT, a_ins_hi (by omega), up_ne (by omega)] at hT
      exact h.2.2.2.2.1 (q - 1) (by omega) hT
  · rcases e_tp with ⟨y1, y2, y3⟩ | ⟨y1, y2, y3⟩ | ⟨y1, y2⟩
    · exact y3
    · rcases hno with y | ⟨q, hq, y⟩
      · exact absurd (show a_c α + 1 = 0 from y) (by omega)
      · have hq : q + 1 = a_c α + 1 := hq
        have : q = k + 1 := by omega
        subst this
        have y : T' (k + 1) = 0 := y
        rw [eT, a_ins_at, y1] at y
        exact absurd y (by decide)
    · rw [y2, if_neg (h.tpne g hk (Or.inr y1))]
      refine h.2.2.2.2.2.1 ?_
      rcases hno with y | ⟨q, hq, y⟩
      · exact absurd (show a_c α + 1 = 0 from y) (by omega)
      · have hq : q + 1 = a_c α + 1 := hq
        have y : T' q = 0 := y
        rw [eT, a_ins_hi (by omega), up_ne (by omega)] at y
        exact Or.inr ⟨q - 1, by omega, y⟩
  · have ha : a < a_ins (a_F α) k (a_F α k + s) (a_c α + 1) := ha
    rw [eE] at ha
    rw [e_u]
    exact h.2.2.2.2.2.2 a ha
/-- what cut leaves, whatever is behind -/
theorem xcut_t (σ : XS) (p s m : Nat) (v : Int32) (hv5 : v = 0 ∨ v = 1 ∨ v = 2 ∨ v = 3 ∨ v = 4) : x_t (xLay (xLay0 (xLift σ p) p s) (p + s) m v) = upd (upd (x_t σ) p 0) (p + s) (if v = 1 ∨ v = 2 then a_code m else v) ∧ x_z (xLay (xLay0 (xLift σ p) p s) (p + s) m v) = upd (upd (x_z σ) p (nI s)) (p + s) (nI m) := by
  have e1 : x_t (xLay0 (xLift σ p) p s) = upd (x_t σ) p 0 := ud_ud _ _ _ _
  have e2 : x_z (xLay0 (xLift σ p) p s) = upd (x_z σ) p (nI s) := ud_ud _ _ _ _
  unfold xLay
  by_cases q4 : v = 4
  · subst q4
    rw [if_pos rfl, if_neg (by decide), ← e1, ← e2]; exact ⟨rfl, rfl⟩
  · rw [if_neg q4]
    by_cases q3 : v = 3
    · subst q3
      rw [if_pos rfl, if_neg (by decide), ← e1, ← e2]; exact ⟨rfl, rfl⟩
    · rw [if_neg q3]
      by_cases q1 : v = 1 ∨ v = 2
      · rw [if_pos q1, if_pos q1, ← e1, ← e2]; exact ⟨rfl, rfl⟩
      · rw [if_neg q1, if_neg q1, ← e1, ← e2]
        have : v = 0 := by
          rcases hv5 with z | z | z | z | z
          · exact z
          · exact absurd (Or.inl z) q1
          · exact absurd (Or.inr z) q1
          · exact absurd z q3
          · exact absurd z q4
        subst this
        exact ⟨rfl, rfl⟩
/-- cut of a chunk with a victim behind -/
theorem XR.cut3 {n : Nat} {α : AS} {σ : XS} (h : XR n α σ) (g : GE α) {k s : Nat} (hk : k < a_c α) (h2 : 2 ≤ s) (hs : s + 2 ≤ a_S α k) (hl : k + 1 ≠ a_c α) : XR n (a_sV (a_part (a_sT α k 0) k s 3) (nI (a_F α k + s))) (xLay (xLay0 (xLift σ (a_F α k)) (a_F α k) s) (a_F α k + s) (a_S α k - s) 3) := by
  have e := xcut_t σ (a_F α k) s (a_S α k - s) 3 (by decide)
  exact XR.part (v := 3) h g hk h2 hs rfl (fun j hj => a_ins_lo hj) (fun j hj => a_ins_hi hj) e.1 e.2 (fun z => absurd z (by decide)) (fun _ _ => rfl) rfl rfl h.2.2.2.1 rfl (Or.inr (Or.inr ⟨hl, rfl⟩))
theorem XR.cut4 {n : Nat} {α : AS} {σ : XS} (h : XR n α σ) (g : GE α) {k s : Nat} (hk : k < a_c α) (h2 : 2 ≤ s) (hs : s + 2 ≤ a_S α k) (hl : k + 1 = a_c α) (hV : ¬ nI (a_F α k) = a_V α) : XR n (a_part (a_sT α k 0) k s 4) (xLay (xLay0 (xLift σ (a_F α k)) (a_F α k) s) (a_F α k + s) (a_S α k - s) 4) := by
  have e := xcut_t σ (a_F α k) s (a_S α k - s) 4 (by decide)
  refine XR.part (v := 4) h g hk h2 hs rfl (fun j hj => a_ins_lo hj) (fun j hj => a_ins_hi hj) e.1 e.2 (fun z => absurd z (by decide)) (fun _ _ => rfl) rfl ?_ h.2.2.2.1 rfl (Or.inr (Or.inl ⟨rfl, hl, rfl⟩))
  show (if nI (a_F α k) = x_vi σ then -1 else x_vi σ) = a_V α
  rw [h.2.2.1, if_neg hV]
def a_partS (α : AS) (k s : Nat) (v : Int32) : AS := (a_c α + 1, a_ins (a_F α) k (a_F α k + s), va_up (a_ins (a_S α) k (a_S α k - s)) k s, a_ins (a_T α) k v, a_ins (a_C α) k (a_K α + 1), a_V α, a_K α + 1, a_un α)
theorem a_partS_eq (α : AS) (k s : Nat) (v : Int32) : a_stor2 (a_part α k s 5) (k + 1) v = a_partS α k s v := by
  show (_, _, _, va_up (a_ins (a_T α) k 5) (k + 1) v, va_up (a_ins (a_C α) k 0) (k + 1) (a_K α + 1), _, _, _) = _
  rw [up_ins, up_ins]
  rfl
theorem XR.cutS {n : Nat} {α : AS} {σ : XS} (h : XR n α σ) (g : GE α) {k s : Nat} (hk : k < a_c α) (h2 : 2 ≤ s) (hs : s + 2 ≤ a_S α k) (hl : k + 1 ≠ a_c α) (hV : ¬ nI (a_F α k) = a_V α) {v : Int32} (hv : v = 1 ∨ v = 2) : XR n (a_stor2 (a_part (a_sT α k 0) k s 5) (k + 1) (a_code (a_S α k - s))) (xLay (xLay0 (xLift σ (a_F α k)) (a_F α k) s) (a_F α k + s) (a_S α k - s) v) := by
  rw [a_partS_eq]
  have e := xcut_t σ (a_F α k) s (a_S α k - s) v (hv.elim (fun z => Or.inr (Or.inl z)) (fun z => Or.inr (Or.inr (Or.inl z))))
  rw [if_pos hv] at e
  have q4 : ¬ v = 4 := by rcases hv with z | z <;> rw [z] <;> decide
  have q3 : ¬ v = 3 := by rcases hv with z | z <;> rw [z] <;> decide
  have ex : xLay (xLay0 (xLift σ (a_F α k)) (a_F α k) s) (a_F α k + s) (a_S α k - s) v = xLayS (xLay0 (xLift σ (a_F α k)) (a_F α k) s) (a_F α k + s) (a_S α k - s) := by
    unfold xLay; rw [if_neg q4, if_neg q3, if_pos hv]
  rw [ex] at e ⊢
  refine XR.part (v := a_code (a_S α k - s)) h g hk h2 hs rfl (fun j hj => a_ins_lo hj) (fun j hj => a_ins_hi hj) e.1 e.2 (fun _ => ?_) (fun a ha => ?_) rfl ?_ ?_ rfl (Or.inr (Or.inr ⟨hl, rfl⟩))
  · show upd (x_r σ) (a_F α k + s) (x_la σ + 1) (a_F α k + s) = a_ins (a_C α) k (a_K α + 1) (k + 1)
    rw [ud_at, a_ins_at, h.2.2.2.1]
  · show upd (x_r σ) (a_F α k + s) (x_la σ + 1) a = x_r σ a
    rw [ud_ne ha]
  · show (if nI (a_F α k) = x_vi σ then -1 else x_vi σ) = a_V α
    rw [h.2.2.1, if_neg hV]
  · show x_la σ + 1 = a_K α + 1
    rw [h.2.2.2.1]
theorem XR.cut0 {n : Nat} {α : AS} {σ : XS} (h : XR n α σ) (g : GE α) {k s : Nat} (hk : k < a_c α) (h2 : 2 ≤ s) (hs : s + 2 ≤ a_S α k) (hT : a_T α k = 0) (hV : ¬ nI (a_F α k) = a_V α) : XR n (a_part (a_sT α k 0) k s 0) (xLay (xLay0 (xLift σ (a_F α k)) (a_F α k) s) (a_F α k + s) (a_S α k - s) 0) := by
  have e := xcut_t σ (a_F α k) s (a_S α k - s) 0 (by decide)
  refine XR.part (v := 0) h g hk h2 hs rfl (fun j hj => a_ins_lo hj) (fun j hj => a_ins_hi hj) e.1 e.2 (fun z => absurd z (by decide)) (fun _ _ => rfl) rfl ?_ h.2.2.2.1 rfl ?_
  · show (if nI (a_F α k) = x_vi σ then -1 else x_vi σ) = a_V α
    rw [h.2.2.1, if_neg hV]
  · by_cases z : k + 1 = a_c α
    · refine Or.inl ⟨rfl, z, ?_⟩
      show (if nI (a_F α k) = x_tp σ then -1 else x_tp σ) = -1
      rw [if_neg (h.tpne g hk (Or.inl hT))]
      exact h.2.2.2.2.2.1 (Or.inr ⟨k, z, hT⟩)
    · exact Or.inr (Or.inr ⟨z, rfl⟩)
