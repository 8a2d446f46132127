def bstT (rc : MS → Int32 → Int32 → Int32 → Int32 → Prop) (σ : MS) (v1 v2 v3 v4 : Int32) : Prop := (vp_in v4 258 ∧ (((m_sz σ v4.toNatClampNeg) < v1 → rc σ v1 v2 v3 (v4 + 1)) ∧ (¬ (m_sz σ v4.toNatClampNeg) < v1 → (vp_in v4 258 ∧ ((v2 < (m_sz σ v4.toNatClampNeg) → rc σ v1 v2 v3 (v4 + 1)) ∧ (¬ v2 < (m_sz σ v4.toNatClampNeg) → ((v3 < 0 → rc σ v1 v2 v4 (v4 + 1)) ∧ (¬ v3 < 0 → (vp_in v4 258 ∧ (vp_in v3 258 ∧ (((m_sz σ v4.toNatClampNeg) < (m_sz σ v3.toNatClampNeg) → rc σ v1 v2 v4 (v4 + 1)) ∧ (¬ (m_sz σ v4.toNatClampNeg) < (m_sz σ v3.toNatClampNeg) → (vp_in v4 258 ∧ (vp_in v3 258 ∧ ((¬ (m_sz σ v4.toNatClampNeg) = (m_sz σ v3.toNatClampNeg) → rc σ v1 v2 v3 (v4 + 1)) ∧ ((m_sz σ v4.toNatClampNeg) = (m_sz σ v3.toNatClampNeg) → (vp_in v4 258 ∧ (vp_in v3 258 ∧ (((m_ca σ v4.toNatClampNeg) ≤ (m_ca σ v3.toNatClampNeg) → rc σ v1 v2 v3 (v4 + 1)) ∧ (¬ (m_ca σ v4.toNatClampNeg) ≤ (m_ca σ v3.toNatClampNeg) → rc σ v1 v2 v4 (v4 + 1)))))))))))))))))))))
def TO (α : AS) (j : Nat) : Prop := a_T α j = 0 ∨ (a_T α j = 1 ∧ a_S α j < 16 ∧ j + 1 ≠ a_c α) ∨ (a_T α j = 2 ∧ 16 ≤ a_S α j ∧ j + 1 ≠ a_c α) ∨ (a_T α j = 3 ∧ a_V α = nI (a_F α j) ∧ j + 1 ≠ a_c α) ∨ (a_T α j = 4 ∧ j + 1 = a_c α)
def WF (n : Nat) (α : AS) : Prop := GE α ∧ a_F α (a_c α) ≤ n ∧ n ≤ 512 ∧ (∀ j, j < a_c α → TO α j) ∧ (∀ j, j + 1 < a_c α → a_T α j = 0 ∨ a_T α (j + 1) = 0) ∧ (a_V α = -1 ∨ ∃ j, j < a_c α ∧ a_V α = nI (a_F α j) ∧ a_T α j = 3)
theorem WF.ge {n : Nat} {α : AS} (w : WF n α) : GE α := w.1
theorem WF.to {n : Nat} {α : AS} (w : WF n α) {j : Nat} (hj : j < a_c α) : TO α j := w.2.2.2.1 j hj
/-- the victim is the chunk that the victim's unit names -/
theorem WF.v3 {n : Nat} {α : AS} (w : WF n α) {j : Nat} (hj : j < a_c α) (e : a_V α = nI (a_F α j)) : a_T α j = 3 := by
  have g := w.ge
  rcases w.2.2.2.2.2 with h | ⟨i, hi, h1, h2⟩
  · have := g.le (Nat.le_of_lt hj)
    exact absurd (e.symm.trans h) (s_m1 (by omega))
  · have l1 := g.le (Nat.le_of_lt hi)
    have l2 := g.le (Nat.le_of_lt hj)
    have e2 := (s_eq (by omega) (by omega)).mp (h1.symm.trans e)
    have := g.inj (Nat.le_of_lt hi) (Nat.le_of_lt hj) e2
    subst this
    exact h2
theorem M_stateOf {n : Nat} {α : AS} {μ : MS} (lim : Int32) (h : MR α μ) (w : WF n α) {k : Nat} (hk : k < a_c α) {post : Int32 → MS → Prop} (hp : post (a_T α k) μ) : wM_stateOf lim μ (nI k) post := by
  have g := w.ge
  have hc := g.c
  have hS := g.sz hk
  have hF := (g.2.1 k hk).1
  have hE := g.2.2
  have i0 : vp_in (nI k) 258 := s_in (by omega) (by omega)
  unfold wM_stateOf
  rw [s_cl (show k < 100000 by omega), h.fi hk, h.sz hk, h.en, h.vi, nI_add]
  have t := w.to hk
  refine ⟨i0, fun q => ⟨i0, i0, fun q2 => ⟨i0, fun q3 => ⟨i0, fun q4 => ?_, fun q4 => ?_⟩, fun q3 => ?_⟩, fun q2 => ?_⟩, fun q => ?_⟩
  · have q4 := (s_le (a := 16) (by omega) (by omega)).mp q4
    have q := (h.us0 hk).mp q
    rcases t with t | t | t | t | t
    · exact absurd t q
    · omega
    · rw [t.1] at hp; exact hp
    · exact absurd t.2.1.symm q3
    · exact absurd (by rw [← t.2, hF]) q2
  · have q4 : ¬ 16 ≤ a_S α k := fun z => q4 ((s_le (a := 16) (by omega) (by omega)).mpr z)
    have q := (h.us0 hk).mp q
    rcases t with t | t | t | t | t
    · exact absurd t q
    · rw [t.1] at hp; exact hp
    · omega
    · exact absurd t.2.1.symm q3
    · exact absurd (by rw [← t.2, hF]) q2
  · rw [w.v3 hk q3.symm] at hp; exact hp
  · have q := (h.us0 hk).mp q
    have q2 := (s_eq (by omega) (by omega)).mp q2
    have e : k + 1 = a_c α := g.inj (by omega) (Nat.le_refl _) (by rw [hF]; exact q2)
    rcases t with t | t | t | t | t
    · exact absurd t q
    · omega
    · omega
    · omega
    · rw [t.1] at hp; exact hp
  · have q : a_T α k = 0 := Decidable.byContradiction fun z => q ((h.us0 hk).mpr z)
    rw [q] at hp; exact hp
def cand (α : AS) (lo hi i : Nat) : Prop := (a_T α i = 1 ∨ a_T α i = 2) ∧ lo ≤ a_S α i ∧ a_S α i ≤ hi
def bet (α : AS) (b i : Nat) : Prop := a_S α b < a_S α i ∨ (a_S α b = a_S α i ∧ (a_C α i < a_C α b ∨ (a_C α i = a_C α b ∧ b ≤ i)))
def BstU (α : AS) (lo hi m b : Nat) : Prop := b < m ∧ cand α lo hi b ∧ ∀ i, i < m → cand α lo hi i → bet α b i
def BI (α : AS) (lo hi m : Nat) (v : Int32) : Prop := (v = -1 ∧ ∀ i, i < m → ¬ cand α lo hi i) ∨ ∃ b, v = nI b ∧ BstU α lo hi m b
theorem BI.no {α : AS} {lo hi m : Nat} {v : Int32} (h : BI α lo hi m v) (hn : ¬ cand α lo hi m) : BI α lo hi (m + 1) v := by
  have ex : ∀ {i : Nat}, i < m + 1 → cand α lo hi i → i < m := fun {i} h1 h2 => by
    rcases Nat.lt_or_ge i m with z | z
    · exact z
    · have : i = m := by omega
      subst this; exact absurd h2 hn
  rcases h with h | ⟨b, e, h1, h2, h3⟩
  · exact Or.inl ⟨h.1, fun i hi hc => h.2 i (ex hi hc) hc⟩
  · exact Or.inr ⟨b, e, by omega, h2, fun i hi hc => h3 i (ex hi hc) hc⟩
theorem BI.new {α : AS} {lo hi m : Nat} (h : ∀ i, i < m → ¬ cand α lo hi i) (hc : cand α lo hi m) : BI α lo hi (m + 1) (nI m) := by
  refine Or.inr ⟨m, rfl, by omega, hc, fun i hi h2 => ?_⟩
  rcases Nat.lt_or_ge i m with z | z
  · exact absurd h2 (h i z)
  · have : i = m := by omega
    subst this; exact Or.inr ⟨rfl, Or.inr ⟨rfl, Nat.le_refl _⟩⟩
theorem BI.rep {α : AS} {lo hi m b : Nat} (h : BstU α lo hi m b) (hc : cand α lo hi m) (hb : a_S α m < a_S α b ∨ (a_S α m = a_S α b ∧ a_C α b < a_C α m)) : BI α lo hi (m + 1) (nI m) := by
  refine Or.inr ⟨m, rfl, by omega, hc, fun i hi h2 => ?_⟩
  rcases Nat.lt_or_ge i m with z | z
  · rcases hb with hb | hb <;> rcases h.2.2 i z h2 with q | ⟨q, r⟩
    · exact Or.inl (by omega)
    · exact Or.inl (by omega)
    · exact Or.inl (by omega)
    · refine Or.inr ⟨by omega, Or.inl ?_⟩
      rcases r with r | r
      · exact Int32.lt_trans r hb.2
      · rw [r.1]; exact hb.2
  · have : i = m := by omega
    subst this; exact Or.inr ⟨rfl, Or.inr ⟨rfl, Nat.le_refl _⟩⟩
theorem BI.keep {α : AS} {lo hi m b : Nat} (h : BstU α lo hi m b) (hb : bet α b m) : BI α lo hi (m + 1) (nI b) := by
  refine Or.inr ⟨b, rfl, by have := h.1; omega, h.2.1, fun i hi h2 => ?_⟩
  rcases Nat.lt_or_ge i m with z | z
  · exact h.2.2 i z h2
  · have : i = m := by omega
    subst this; exact hb
theorem bst_step {n : Nat} {α : AS} {μ : MS} (h : MR α μ) (w : WF n α) {lo hi m : Nat} (hlo : lo < 100000) (hhi : hi < 100000) (hm : m < a_c α) (hT : a_T α m = 1 ∨ a_T α m = 2) {v3 : Int32} (hI : BI α lo hi m v3) {rc : MS → Int32 → Int32 → Int32 → Int32 → Prop} (hrc : ∀ v, BI α lo hi (m + 1) v → rc μ (nI lo) (nI hi) v (nI (m + 1))) : bstT rc μ (nI lo) (nI hi) v3 (nI m) := by
  have g := w.ge
  have hc := g.c
  have hS := g.sz hm
  have i0 : vp_in (nI m) 258 := s_in (by omega) (by omega)
  unfold bstT
  rw [s_cl (show m < 100000 by omega), h.sz hm, s_1, s_lt (by omega) hlo, s_lt hhi (by omega)]
  refine ⟨i0, fun q => hrc _ (hI.no (fun z => by have := z.2.1; omega)), fun q => ⟨i0, fun q2 => hrc _ (hI.no (fun z => by have := z.2.2; omega)), fun q2 => ?_⟩⟩
  have cm : cand α lo hi m := ⟨hT, by omega, by omega⟩
  rcases hI with hI | ⟨b, rfl, hI⟩
  · obtain ⟨rfl, hI⟩ := hI
    exact ⟨fun _ => hrc _ (BI.new hI cm), fun q3 => absurd (by decide) q3⟩
  · have hb := hI.1
    have hSb := g.sz (show b < a_c α by omega)
    have i1 : vp_in (nI b) 258 := s_in (by omega) (by omega)
    refine ⟨fun q3 => absurd q3 (s_pos (by omega)), fun q3 => ⟨i0, i1, ?_⟩⟩
    rw [s_cl (show b < 100000 by omega), h.sz (show b < a_c α by omega), s_lt (by omega) (by omega), s_eq (by omega) (by omega), h.ca hm hT, h.ca (show b < a_c α by omega) hI.2.1.1]
    refine ⟨fun q4 => hrc _ (BI.rep hI cm (Or.inl q4)), fun q4 => ⟨i0, i1, fun q5 => hrc _ (BI.keep hI (Or.inl (by omega))), fun q5 => ⟨i0, i1, fun q6 => hrc _ (BI.keep hI (Or.inr ⟨q5.symm, ?_⟩)), fun q6 => hrc _ (BI.rep hI cm (Or.inr ⟨q5, Int32.not_le.mp q6⟩))⟩⟩⟩
    rcases Int32.lt_or_eq_of_le q6 with z | z
    · exact Or.inl z
    · exact Or.inr ⟨z, by omega⟩
theorem M_best {n : Nat} {α : AS} {μ : MS} (lim : Int32) (h : MR α μ) (w : WF n α) {lo hi : Nat} (hlo : lo < 100000) (hhi : hi < 100000) {post : Int32 → MS → Prop} (h1 : ∀ b, BstU α lo hi (a_c α) b → post (nI b) μ) (h2 : (∀ i, i < a_c α → ¬ cand α lo hi i) → post (-1) μ) : wM_best lim μ (nI lo) (nI hi) post := by
  have g := w.ge
  have hc := g.c
  have key : ∀ f m v3, a_c α < m + f → m ≤ a_c α → BI α lo hi m v3 → wM_best_5 lim post f μ (nI lo) (nI hi) v3 (nI m) := by
    intro f
    induction f with
    | zero => intro m v3 h3 h4; omega
    | succ f ih =>
      intro m v3 h3 h4 hI
      show wM_best_5_s lim post (wM_best_5 lim post f) μ (nI lo) (nI hi) v3 (nI m)
      refine ⟨fun q => ?_, fun q => ?_⟩
      · rw [h.ch, s_le (by omega) (by omega)] at q
        have e : m = a_c α := by omega
        subst e
        rcases hI with hI | ⟨b, rfl, hI⟩
        · rw [hI.1]; exact h2 hI.2
        · exact h1 b hI
      · rw [h.ch, s_le (by omega) (by omega)] at q
        have hm : m < a_c α := by omega
        have hrc : ∀ v, BI α lo hi (m + 1) v → wM_best_5 lim post f μ (nI lo) (nI hi) v (nI (m + 1)) := fun v hv => ih (m + 1) v (by omega) (by omega) hv
        refine M_stateOf lim h w hm ?_
        refine ⟨fun e => ?_, fun e => ⟨fun e2 => ?_, fun e2 => ?_⟩⟩
        · exact bst_step h w hlo hhi hm (Or.inl e) hI hrc
        · show wM_best_5 lim post f μ (nI lo) (nI hi) v3 (nI m + 1)
          rw [s_1]
          exact hrc _ (hI.no (fun z => z.1.elim e e2))
        · exact bst_step h w hlo hhi hm (Or.inr e2) hI hrc
  exact ⟨a_c α + 1, key (a_c α + 1) 0 (-1) (by omega) (by omega) (Or.inl ⟨rfl, fun i hi => absurd hi (by omega)⟩)⟩
theorem BstU.uniq {α : AS} {lo hi m a b : Nat} (h1 : BstU α lo hi m a) (h2 : BstU α lo hi m b) : a = b := by
  have e1 := h1.2.2 b h2.1 h2.2.1
  have e2 := h2.2.2 a h1.1 h1.2.1
  rcases e1 with e1 | ⟨e1, f1⟩ <;> rcases e2 with e2 | ⟨e2, f2⟩
  · omega
  · omega
  · omega
  · rcases f1 with f1 | f1 <;> rcases f2 with f2 | f2
    · exact absurd (Int32.lt_trans f1 f2) (Int32.lt_irrefl)
    · rw [f2.1] at f1; exact absurd f1 (Int32.lt_irrefl)
    · rw [f1.1] at f2; exact absurd f2 (Int32.lt_irrefl)
    · omega
