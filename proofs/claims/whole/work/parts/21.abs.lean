abbrev AS : Type := Nat × (Nat → Nat) × (Nat → Nat) × (Nat → Int32) × (Nat → Int32) × Int32 × Int32 × (Nat → Int32)
def a_c (α : AS) : Nat := α.1
def a_F (α : AS) : Nat → Nat := α.2.1
def a_S (α : AS) : Nat → Nat := α.2.2.1
def a_T (α : AS) : Nat → Int32 := α.2.2.2.1
def a_C (α : AS) : Nat → Int32 := α.2.2.2.2.1
def a_V (α : AS) : Int32 := α.2.2.2.2.2.1
def a_K (α : AS) : Int32 := α.2.2.2.2.2.2.1
def a_un (α : AS) : Nat → Int32 := α.2.2.2.2.2.2.2
/-- the reference's arrays hold α -/
def MR (α : AS) (μ : MS) : Prop :=
  m_ch μ = nI (a_c α) ∧ m_en μ = nI (a_F α (a_c α)) ∧ m_cl μ = a_K α ∧ m_vi μ = a_V α ∧ m_un μ = a_un α ∧
  ∀ j, j < a_c α → m_fi μ j = nI (a_F α j) ∧ m_sz μ j = nI (a_S α j) ∧ m_us μ j = (if a_T α j = 0 then 1 else 0) ∧ ((a_T α j = 1 ∨ a_T α j = 2) → m_ca μ j = a_C α j)
/-- chunks side by side -/
def GE (α : AS) : Prop := a_F α 0 = 0 ∧ (∀ j, j < a_c α → a_F α (j + 1) = a_F α j + a_S α j ∧ 2 ≤ a_S α j) ∧ a_F α (a_c α) ≤ 512
theorem GE.two {α : AS} (h : GE α) : ∀ j, j ≤ a_c α → 2 * j ≤ a_F α j := by
  intro j
  induction j with
  | zero => intro _; omega
  | succ j ih =>
    intro hj
    have h1 := ih (by omega)
    have h2 := h.2.1 j (by omega)
    omega
theorem GE.lt {α : AS} (h : GE α) : ∀ i j, i < j → j ≤ a_c α → a_F α i + a_S α i ≤ a_F α j ∧ a_F α i + 2 ≤ a_F α j := by
  intro i j
  induction j with
  | zero => intro h1; omega
  | succ j ih =>
    intro h1 h2
    have h3 := h.2.1 j (by omega)
    rcases Nat.lt_or_ge i j with h4 | h4
    · have := ih h4 (by omega)
      omega
    · have h5 : i = j := by omega
      subst h5
      omega
theorem GE.c {α : AS} (h : GE α) : a_c α ≤ 256 := by
  have h1 := h.two (a_c α) (Nat.le_refl _)
  have h2 := h.2.2
  omega
theorem GE.le {α : AS} (h : GE α) {j : Nat} (hj : j ≤ a_c α) : a_F α j ≤ 512 := by
  have h2 := h.2.2
  rcases Nat.lt_or_ge j (a_c α) with h1 | h1
  · have := h.lt j (a_c α) h1 (Nat.le_refl _); omega
  · have : j = a_c α := by omega
    subst this; omega
theorem GE.sz {α : AS} (h : GE α) {j : Nat} (hj : j < a_c α) : a_S α j ≤ 512 ∧ a_F α j + a_S α j ≤ a_F α (a_c α) ∧ a_F α j + a_S α j ≤ 512 := by
  have h1 := h.lt j (a_c α) hj (Nat.le_refl _)
  have h2 := h.2.2
  omega
theorem GE.inj {α : AS} (h : GE α) {i j : Nat} (hi : i ≤ a_c α) (hj : j ≤ a_c α) (e : a_F α i = a_F α j) : i = j := by
  rcases Nat.lt_trichotomy i j with h1 | h1 | h1
  · have := h.lt i j h1 hj; omega
  · exact h1
  · have := h.lt j i h1 hi; omega
theorem s_le {a b : Nat} (ha : a < 100000) (hb : b < 100000) : nI a ≤ nI b ↔ a ≤ b := nI_leI (by omega) (by omega)
theorem s_lt {a b : Nat} (ha : a < 100000) (hb : b < 100000) : nI a < nI b ↔ a < b := nI_ltI (by omega) (by omega)
theorem s_eq {a b : Nat} (ha : a < 100000) (hb : b < 100000) : nI a = nI b ↔ a = b := nI_eq (by omega) (by omega)
theorem s_cl {a : Nat} (ha : a < 100000) : (nI a).toNatClampNeg = a := nI_clamp (by omega)
theorem s_in {a n : Nat} (h : a < n) (hn : n < 100000) : vp_in (nI a) n := vp_in_nI h (by omega)
theorem s_pos {a : Nat} (ha : a < 100000) : ¬ nI a < 0 := nI_pos (by omega)
theorem s_pos' {a : Nat} (ha : a < 100000) : 0 ≤ nI a := nI_pos' (by omega)
theorem s_m1 {a : Nat} (ha : a < 100000) : ¬ nI a = -1 := fun h => absurd (show nI a < 0 by rw [h]; decide) (s_pos ha)
theorem s_1 (a : Nat) : nI a + 1 = nI (a + 1) := nI_1 a
theorem s_m (a : Nat) (h : 0 < a) : nI a - 1 = nI (a - 1) := pk_sub (b := 1) h
theorem s_bit (b : Prop) (d : Decidable b) : vp_nar .boolean (if b then 1 else 0) = (if b then 1 else 0) := by
  cases d with
  | isTrue h => rw [if_pos h]; rfl
  | isFalse h => rw [if_neg h]; rfl
theorem MR.ch {α : AS} {μ : MS} (h : MR α μ) : m_ch μ = nI (a_c α) := h.1
theorem MR.en {α : AS} {μ : MS} (h : MR α μ) : m_en μ = nI (a_F α (a_c α)) := h.2.1
theorem MR.cl {α : AS} {μ : MS} (h : MR α μ) : m_cl μ = a_K α := h.2.2.1
theorem MR.vi {α : AS} {μ : MS} (h : MR α μ) : m_vi μ = a_V α := h.2.2.2.1
theorem MR.un {α : AS} {μ : MS} (h : MR α μ) : m_un μ = a_un α := h.2.2.2.2.1
theorem MR.fi {α : AS} {μ : MS} (h : MR α μ) {j : Nat} (hj : j < a_c α) : m_fi μ j = nI (a_F α j) := (h.2.2.2.2.2 j hj).1
theorem MR.sz {α : AS} {μ : MS} (h : MR α μ) {j : Nat} (hj : j < a_c α) : m_sz μ j = nI (a_S α j) := (h.2.2.2.2.2 j hj).2.1
theorem MR.us {α : AS} {μ : MS} (h : MR α μ) {j : Nat} (hj : j < a_c α) : m_us μ j = (if a_T α j = 0 then 1 else 0) := (h.2.2.2.2.2 j hj).2.2.1
theorem MR.ca {α : AS} {μ : MS} (h : MR α μ) {j : Nat} (hj : j < a_c α) : (a_T α j = 1 ∨ a_T α j = 2) → m_ca μ j = a_C α j := (h.2.2.2.2.2 j hj).2.2.2
theorem MR.us0 {α : AS} {μ : MS} (h : MR α μ) {j : Nat} (hj : j < a_c α) : m_us μ j = 0 ↔ ¬ a_T α j = 0 := by
  rw [h.us hj]
  by_cases hz : a_T α j = 0
  · rw [if_pos hz]; exact ⟨fun q => absurd q (by decide), fun q => absurd hz q⟩
  · rw [if_neg hz]; exact ⟨fun _ => hz, fun _ => rfl⟩
theorem M_at {α : AS} {μ : MS} (lim : Int32) (h : MR α μ) (g : GE α) (u : Int32) {post : Int32 → MS → Prop} (h1 : ∀ k, k < a_c α → nI (a_F α k) = u → post (nI k) μ) (h2 : (∀ k, k < a_c α → ¬ nI (a_F α k) = u) → post (-1) μ) : wM_at lim μ u post := by
  have hc := g.c
  have key : ∀ f k, a_c α < k + f → k ≤ a_c α → (∀ i, i < k → ¬ nI (a_F α i) = u) → wM_at_2 lim post f μ u (nI k) := by
    intro f
    induction f with
    | zero => intro k h3 h4; omega
    | succ f ih =>
      intro k h3 h4 h5
      show wM_at_2_s lim post (wM_at_2 lim post f) μ u (nI k)
      refine ⟨fun q => ?_, fun q => ?_⟩
      · rw [h.ch, s_le (by omega) (by omega)] at q
        exact h2 (fun i hi => h5 i (by omega))
      · rw [h.ch, s_le (by omega) (by omega)] at q
        have hk : k < a_c α := by omega
        refine ⟨s_in (by omega) (by omega), ?_⟩
        rw [s_cl (by omega), h.fi hk]
        refine ⟨fun q2 => ?_, fun q2 => h1 k hk q2⟩
        rw [s_1]
        exact ih (k + 1) (by omega) (by omega) (fun i hi => by
          rcases Nat.lt_or_ge i k with h6 | h6
          · exact h5 i h6
          · have : i = k := by omega
            subst this; exact q2)
  exact ⟨a_c α + 1, key (a_c α + 1) 0 (by omega) (by omega) (fun i hi => absurd hi (by omega))⟩
/-- the chunk at a given unit, if it is known -/
theorem M_atk {α : AS} {μ : MS} (lim : Int32) (h : MR α μ) (g : GE α) {k : Nat} (hk : k < a_c α) {post : Int32 → MS → Prop} (h1 : post (nI k) μ) : wM_at lim μ (nI (a_F α k)) post := by
  refine M_at lim h g _ (fun i hi e => ?_) (fun q => absurd rfl (q k hk))
  have hl1 := g.le (Nat.le_of_lt hi)
  have hl2 := g.le (Nat.le_of_lt hk)
  rw [s_eq (by omega) (by omega)] at e
  have := g.inj (Nat.le_of_lt hi) (Nat.le_of_lt hk) e
  subst this
  exact h1
theorem M_top {α : AS} {μ : MS} (lim : Int32) (h : MR α μ) (g : GE α) {post : Int32 → MS → Prop} (h1 : ∀ k, k + 1 = a_c α → ¬ a_T α k = 0 → post (nI k) μ) (h2 : (a_c α = 0 ∨ ∃ k, k + 1 = a_c α ∧ a_T α k = 0) → post (-1) μ) : wM_top lim μ post := by
  have hc := g.c
  refine ⟨fun q => ?_, fun q => ?_⟩
  · rw [h.ch] at q
    exact h2 (Or.inl (by have := (s_le (b := 0) (by omega) (by omega)).mp q; omega))
  · rw [h.ch] at q ⊢
    have hp : 0 < a_c α := by
      rcases Nat.eq_zero_or_pos (a_c α) with z | z
      · rw [z] at q; exact absurd (by decide) q
      · exact z
    rw [s_m _ hp]
    refine ⟨s_in (by omega) (by omega), ?_⟩
    rw [s_cl (by omega)]
    refine ⟨fun q2 => h2 (Or.inr ⟨a_c α - 1, by omega, ?_⟩), fun q2 => h1 (a_c α - 1) (by omega) ?_⟩
    · rw [h.us0 (by omega)] at q2
      exact Decidable.byContradiction fun z => q2 z
    · exact (h.us0 (by omega)).mp q2
