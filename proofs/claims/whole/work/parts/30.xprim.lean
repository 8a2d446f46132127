/-- the class's rows hold the chunks of α -/
def XC (n : Nat) (α : AS) (t z r : Nat → Int32) : Prop :=
  (∀ j, j < a_c α → t (a_F α j) = a_T α j ∧ z (a_F α j) = nI (a_S α j) ∧ ((a_T α j = 1 ∨ a_T α j = 2) → r (a_F α j) = a_C α j)) ∧
  ∀ a, a < n → (∀ j, j < a_c α → a_F α j ≠ a) → t a = -1
def XR (n : Nat) (α : AS) (σ : XS) : Prop :=
  XC n α (x_t σ) (x_z σ) (x_r σ) ∧ x_en σ = nI (a_F α (a_c α)) ∧ x_vi σ = a_V α ∧ x_la σ = a_K α ∧
  (∀ k, k + 1 = a_c α → ¬ a_T α k = 0 → x_tp σ = nI (a_F α k)) ∧ (noTop α → x_tp σ = -1) ∧ ∀ a, a < a_F α (a_c α) → x_u σ a = a_un α a
theorem XC.t {n : Nat} {α : AS} {t z r : Nat → Int32} (h : XC n α t z r) {j : Nat} (hj : j < a_c α) : t (a_F α j) = a_T α j := (h.1 j hj).1
theorem XC.z {n : Nat} {α : AS} {t z r : Nat → Int32} (h : XC n α t z r) {j : Nat} (hj : j < a_c α) : z (a_F α j) = nI (a_S α j) := (h.1 j hj).2.1
theorem XC.r {n : Nat} {α : AS} {t z r : Nat → Int32} (h : XC n α t z r) {j : Nat} (hj : j < a_c α) : (a_T α j = 1 ∨ a_T α j = 2) → r (a_F α j) = a_C α j := (h.1 j hj).2.2
theorem ud_ud (f : Nat → Int32) (k : Nat) (v w : Int32) : upd (upd f k v) k w = upd f k w := by
  funext j
  by_cases e : j = k
  · subst e; rw [ud_at, ud_at]
  · rw [ud_ne e, ud_ne e, ud_ne e]
def xLift (σ : XS) (p : Nat) : XS := (x_u σ, upd (x_z σ) p 0, upd (x_t σ) p (-1), x_r σ, x_la σ, x_en σ, if nI p = x_vi σ then -1 else x_vi σ, if nI p = x_tp σ then -1 else x_tp σ)
def xLay0 (σ : XS) (p s : Nat) : XS := (x_u σ, upd (x_z σ) p (nI s), upd (x_t σ) p 0, x_r σ, x_la σ, x_en σ, x_vi σ, x_tp σ)
def xLay3 (σ : XS) (p s : Nat) : XS := (x_u σ, upd (x_z σ) p (nI s), upd (x_t σ) p 3, x_r σ, x_la σ, x_en σ, nI p, x_tp σ)
def xLay4 (σ : XS) (p s : Nat) : XS := (x_u σ, upd (x_z σ) p (nI s), upd (x_t σ) p 4, x_r σ, x_la σ, x_en σ, x_vi σ, nI p)
def xLayS (σ : XS) (p s : Nat) : XS := (x_u σ, upd (x_z σ) p (nI s), upd (x_t σ) p (a_code s), upd (x_r σ) p (x_la σ + 1), x_la σ + 1, x_en σ, x_vi σ, x_tp σ)
/-- what lay does with a state that is given to it -/
def xLay (σ : XS) (p s : Nat) (v : Int32) : XS := if v = 4 then xLay4 σ p s else if v = 3 then xLay3 σ p s else if v = 1 ∨ v = 2 then xLayS σ p s else xLay0 σ p s
theorem X_lift {n : Nat} (lim : Int32) {σ : XS} {p : Nat} (hp : p < n) (hn : n < 100000) {post : Int32 → XS → Prop} (h : post (x_z σ p) (xLift σ p)) : wX_lift n lim σ (nI p) post := by
  obtain ⟨u, z, t, r, la, en, vi, tp⟩ := σ
  have i0 : vp_in (nI p) n := s_in hp hn
  unfold wX_lift
  rw [s_cl (show p < 100000 by omega)]
  have l34 : ∀ vi' : Int32, post (z p) (u, upd z p 0, upd t p (-1), r, la, en, vi', if nI p = tp then -1 else tp) → wX_lift_34 n lim (u, upd z p 0, upd t p (-1), r, la, en, vi', tp) (nI p) (z p) post := by
    intro vi' q
    by_cases e : nI p = tp
    · rw [if_pos e] at q
      exact ⟨fun z => absurd e z, fun _ => q⟩
    · rw [if_neg e] at q
      exact ⟨fun _ => q, fun z => absurd z e⟩
  have h : post (z p) (u, upd z p 0, upd t p (-1), r, la, en, if nI p = vi then -1 else vi, if nI p = tp then -1 else tp) := h
  refine ⟨i0, i0, i0, fun q => ?_, fun q => ?_⟩
  · have q : ¬ nI p = vi := q
    rw [if_neg q] at h
    exact l34 vi h
  · have q : nI p = vi := q
    rw [if_pos q] at h
    exact l34 (-1) h
theorem X_lay {n : Nat} (lim : Int32) {σ : XS} {p s : Nat} (v : Int32) (hp : p < n) (hn : n < 100000) (hs : s < 100000) (hv5 : v = 0 ∨ v = 1 ∨ v = 2 ∨ v = 3 ∨ v = 4) {post : XS → Prop} (h : post (xLay σ p s v)) : wX_lay n lim σ (nI p) (nI s) v post := by
  obtain ⟨u, z, t, r, la, en, vi, tp⟩ := σ
  have i0 : vp_in (nI p) n := s_in hp hn
  unfold wX_lay
  rw [s_cl (show p < 100000 by omega)]
  have l66 : ∀ w : Int32, post (u, upd z p (nI s), upd t p w, upd r p (la + 1), la + 1, en, vi, tp) → wX_lay_66 n lim (u, upd z p (nI s), upd t p v, r, la, en, vi, tp) (nI p) (nI p) w post := by
    intro w q
    unfold wX_lay_66
    rw [s_cl (show p < 100000 by omega)]
    refine ⟨i0, i0, ?_⟩
    rw [← ud_ud t p v w] at q
    exact q
  have l50 : post (u, upd z p (nI s), upd t p (a_code s), upd r p (la + 1), la + 1, en, vi, tp) → wX_lay_50 n lim (u, upd z p (nI s), upd t p v, r, la, en, vi, tp) (nI p) (nI s) post := by
    intro q
    refine ⟨fun e => l66 2 ?_, fun e => l66 1 ?_⟩
    · have e := (s_le (a := 16) (by omega) (by omega)).mp e
      unfold a_code at q
      rw [if_neg (by omega)] at q
      exact q
    · have e : ¬ 16 ≤ s := fun z => e ((s_le (a := 16) (by omega) (by omega)).mpr z)
      unfold a_code at q
      rw [if_pos (by omega)] at q
      exact q
  unfold xLay at h
  refine ⟨i0, i0, fun q4 => ⟨fun q3 => ⟨fun q1 => ?_, fun q1 => ⟨fun q2 => ?_, fun q2 => ?_⟩⟩, fun q3 => ?_⟩, fun q4 => ?_⟩
  · rw [if_neg q4, if_neg q3, if_pos (Or.inl q1)] at h
    exact l50 h
  · rw [if_neg q4, if_neg q3, if_neg (fun z => z.elim q1 q2)] at h
    have hv : post (u, upd z p (nI s), upd t p 0, r, la, en, vi, tp) := h
    by_cases v0 : v = 0
    · subst v0; exact hv
    · rcases hv5 with z | z | z | z | z
      · exact absurd z v0
      · exact absurd z q1
      · exact absurd z q2
      · exact absurd z q3
      · exact absurd z q4
  · rw [if_neg q4, if_neg q3, if_pos (Or.inr q2)] at h
    exact l50 h
  · rw [if_neg q4, if_pos q3] at h
    subst q3
    exact h
  · rw [if_pos q4] at h
    subst q4
    exact h
