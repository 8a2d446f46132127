theorem M_join {α : AS} {μ : MS} (lim : Int32) (h : MR α μ) (g : GE α) {k : Nat} (hk : k + 1 < a_c α) {post : MS → Prop} (hp : ∀ μ', MR (a_join α k) μ' → post μ') : wM_join lim μ (nI k) post := by
  obtain ⟨un, fi, sz, us, ca, en, ch, cl, vi⟩ := μ
  have hc := g.c
  have hS := g.sz (show k < a_c α by omega)
  have hS2 := g.sz hk
  obtain ⟨c, hcc⟩ : ∃ c, c = a_c α := ⟨_, rfl⟩
  rw [← hcc] at hc hk
  have hch : ch = nI c := by rw [hcc]; exact h.1
  have z0 : sz k = nI (a_S α k) := h.sz (by omega)
  have z1 : sz (k + 1) = nI (a_S α (k + 1)) := h.sz (by omega)
  obtain ⟨s1, hs1⟩ : ∃ s1, s1 = upd sz k (nI (a_S α k + a_S α (k + 1))) := ⟨_, rfl⟩
  have key : ∀ f i, i + 1 ≤ c → k + 1 ≤ i → c ≤ i + f → wM_join_25 lim post f (un, shl fi k i, shl s1 k i, shl us k i, shl ca k i, en, ch, cl, vi) (nI i) := by
    intro f
    induction f with
    | zero => intro i h3 h4; omega
    | succ f ih =>
      intro i h1 h2 h3
      show wM_join_25_s lim post (wM_join_25 lim post f) (un, shl fi k i, shl s1 k i, shl us k i, shl ca k i, en, ch, cl, vi) (nI i)
      unfold wM_join_25_s
      rw [s_1, show m_ch (un, shl fi k i, shl s1 k i, shl us k i, shl ca k i, en, ch, cl, vi) = nI c from hch, s_le (by omega) (by omega), s_cl (show i < 100000 by omega), s_cl (show i + 1 < 100000 by omega)]
      refine ⟨fun q => ?_, fun q => ?_⟩
      · have e : i + 1 = c := by omega
        refine hp _ ?_
        refine ⟨?_, ?_, h.2.2.1, h.2.2.2.1, h.2.2.2.2.1, ?_⟩
        · show ch - 1 = nI (a_c α - 1)
          rw [hch, s_m c (by omega), hcc]
        · show en = nI (a_del (a_F α) k (a_c α - 1))
          rw [a_del_hi (by omega), show a_c α - 1 + 1 = a_c α by omega]
          exact h.2.1
        · intro j hj
          have hj : j < a_c α - 1 := hj
          show shl fi k i j = nI (a_del (a_F α) k j) ∧ shl s1 k i j = nI (va_up (a_del (a_S α) k) k (a_S α k + a_S α (k + 1)) j) ∧ shl us k i j = (if a_del (a_T α) k j = 0 then 1 else 0) ∧ ((a_del (a_T α) k j = 1 ∨ a_del (a_T α) k j = 2) → shl ca k i j = a_del (a_C α) k j)
          rcases (show j < k ∨ j = k ∨ k < j by omega) with r | r | r
          · rw [shl_lo (by omega), shl_lo (by omega), shl_lo (by omega), shl_lo (by omega), a_del_lo (by omega), up_ne (by omega), a_del_lo (by omega), a_del_lo (by omega), a_del_lo (by omega), hs1, ud_ne (by omega)]
            exact ⟨h.fi (by omega), h.sz (by omega), h.us (by omega), h.ca (by omega)⟩
          · subst r
            rw [shl_lo (by omega), shl_lo (by omega), shl_lo (by omega), shl_lo (by omega), a_del_lo (by omega), up_at, a_del_lo (by omega), a_del_lo (by omega), hs1, ud_at]
            exact ⟨h.fi (by omega), rfl, h.us (by omega), h.ca (by omega)⟩
          · rw [shl_in r (by omega), shl_in r (by omega), shl_in r (by omega), shl_in r (by omega), a_del_hi r, up_ne (by omega), a_del_hi r, a_del_hi r, a_del_hi r, hs1, ud_ne (by omega)]
            exact ⟨h.fi (by omega), h.sz (by omega), h.us (by omega), h.ca (by omega)⟩
      · have i0 : vp_in (nI (i + 1)) 258 := s_in (by omega) (by omega)
        have i1 : vp_in (nI i) 258 := s_in (by omega) (by omega)
        refine ⟨i0, i1, i0, i1, i0, i1, i0, i1, ?_⟩
        have hb : vp_nar .boolean (shl us k i (i + 1)) = shl us k i (i + 1) := by
          rw [shl_hi (by omega), show us (i + 1) = _ from h.us (by omega)]
          exact s_bit _ _
        have e := ih (i + 1) (by omega) (by omega) (by omega)
        rw [← shl_s fi (by omega), ← shl_s s1 (by omega), ← shl_s us (by omega), ← shl_s ca (by omega)] at e
        rw [← hb] at e
        exact e
  unfold wM_join
  rw [s_1, s_cl (show k < 100000 by omega), s_cl (show k + 1 < 100000 by omega)]
  have i0 : vp_in (nI k) 258 := s_in (by omega) (by omega)
  have i1 : vp_in (nI (k + 1)) 258 := s_in (by omega) (by omega)
  refine ⟨i0, i1, i0, c, ?_⟩
  have e := key c (k + 1) (by omega) (by omega) (by omega)
  rw [shl_0, shl_0, shl_0, shl_0, hs1, ← nI_add, ← z0, ← z1] at e
  exact e
def a_stor2 (α : AS) (k : Nat) (v : Int32) : AS := (a_c α, a_F α, a_S α, va_up (a_T α) k v, va_up (a_C α) k (a_K α + 1), a_V α, a_K α + 1, a_un α)
theorem M_store {α : AS} {μ : MS} (lim : Int32) (h : MR α μ) (g : GE α) {k : Nat} {v : Int32} (hk : k < a_c α) (hv : ¬ v = 0) (hT : ¬ a_T α k = 0) {post : MS → Prop} (hp : ∀ μ', MR (a_stor2 α k v) μ' → post μ') : wM_store lim μ (nI k) post := by
  obtain ⟨un, fi, sz, us, ca, en, ch, cl, vi⟩ := μ
  have hc := g.c
  have hcl : cl = a_K α := h.cl
  unfold wM_store
  rw [s_cl (show k < 100000 by omega)]
  refine ⟨s_in (by omega) (by omega), hp _ ⟨h.1, h.2.1, ?_, h.2.2.2.1, h.2.2.2.2.1, ?_⟩⟩
  · show cl + 1 = a_K α + 1
    rw [hcl]
  · intro j hj
    show fi j = nI (a_F α j) ∧ sz j = nI (a_S α j) ∧ us j = (if va_up (a_T α) k v j = 0 then 1 else 0) ∧ ((va_up (a_T α) k v j = 1 ∨ va_up (a_T α) k v j = 2) → upd ca k (cl + 1) j = va_up (a_C α) k (a_K α + 1) j)
    have hj : j < a_c α := hj
    by_cases e : j = k
    · subst e
      rw [ud_at, up_at, up_at, hcl, if_neg hv]
      have u := h.us hj
      rw [if_neg hT] at u
      exact ⟨h.fi hj, h.sz hj, u, fun _ => rfl⟩
    · rw [ud_ne e, up_ne e, up_ne e]
      exact ⟨h.fi hj, h.sz hj, h.us hj, h.ca hj⟩
theorem MR.use {α : AS} {μ : MS} (h : MR α μ) {k : Nat} (hk : k < a_c α) : MR (a_sT α k 0) (m_sus μ (upd (m_us μ) k 1)) := by
  obtain ⟨un, fi, sz, us, ca, en, ch, cl, vi⟩ := μ
  refine ⟨h.1, h.2.1, h.2.2.1, h.2.2.2.1, h.2.2.2.2.1, ?_⟩
  intro j hj
  have hj : j < a_c α := hj
  show fi j = nI (a_F α j) ∧ sz j = nI (a_S α j) ∧ upd us k 1 j = (if va_up (a_T α) k 0 j = 0 then 1 else 0) ∧ ((va_up (a_T α) k 0 j = 1 ∨ va_up (a_T α) k 0 j = 2) → ca j = a_C α j)
  by_cases e : j = k
  · subst e
    rw [ud_at, up_at, if_pos rfl]
    exact ⟨h.fi hj, h.sz hj, rfl, fun q => absurd q (by decide)⟩
  · rw [ud_ne e, up_ne e]
    exact ⟨h.fi hj, h.sz hj, h.us hj, h.ca hj⟩
theorem MR.unuse {α : AS} {μ : MS} (h : MR α μ) {k : Nat} {v : Int32} (hk : k < a_c α) (hv : ¬ v = 0 ∧ ¬ v = 1 ∧ ¬ v = 2) : MR (a_sT α k v) (m_sus μ (upd (m_us μ) k 0)) := by
  obtain ⟨un, fi, sz, us, ca, en, ch, cl, vi⟩ := μ
  refine ⟨h.1, h.2.1, h.2.2.1, h.2.2.2.1, h.2.2.2.2.1, ?_⟩
  intro j hj
  have hj : j < a_c α := hj
  show fi j = nI (a_F α j) ∧ sz j = nI (a_S α j) ∧ upd us k 0 j = (if va_up (a_T α) k v j = 0 then 1 else 0) ∧ ((va_up (a_T α) k v j = 1 ∨ va_up (a_T α) k v j = 2) → ca j = a_C α j)
  by_cases e : j = k
  · subst e
    rw [ud_at, up_at, if_neg hv.1]
    exact ⟨h.fi hj, h.sz hj, rfl, fun q => q.elim (fun z => absurd z hv.2.1) (fun z => absurd z hv.2.2)⟩
  · rw [ud_ne e, up_ne e]
    exact ⟨h.fi hj, h.sz hj, h.us hj, h.ca hj⟩
/-- another code of a free chunk that lies in no store -/
theorem MR.code {α : AS} {μ : MS} (h : MR α μ) {k : Nat} {v : Int32} (hT : ¬ a_T α k = 0) (hv : ¬ v = 0 ∧ ¬ v = 1 ∧ ¬ v = 2) : MR (a_sT α k v) μ := by
  refine ⟨h.1, h.2.1, h.2.2.1, h.2.2.2.1, h.2.2.2.2.1, ?_⟩
  intro j hj
  have hj : j < a_c α := hj
  show m_fi μ j = nI (a_F α j) ∧ m_sz μ j = nI (a_S α j) ∧ m_us μ j = (if va_up (a_T α) k v j = 0 then 1 else 0) ∧ ((va_up (a_T α) k v j = 1 ∨ va_up (a_T α) k v j = 2) → m_ca μ j = a_C α j)
  by_cases e : j = k
  · subst e
    rw [up_at, if_neg hv.1]
    have u := h.us hj
    rw [if_neg hT] at u
    exact ⟨h.fi hj, h.sz hj, u, fun q => q.elim (fun z => absurd z hv.2.1) (fun z => absurd z hv.2.2)⟩
  · rw [up_ne e]
    exact ⟨h.fi hj, h.sz hj, h.us hj, h.ca hj⟩
theorem MR.vic {α : AS} {μ : MS} (h : MR α μ) (v : Int32) : MR (a_sV α v) (m_svi μ v) := ⟨h.1, h.2.1, h.2.2.1, rfl, h.2.2.2.2.1, h.2.2.2.2.2⟩
theorem M_cut {α : AS} {μ : MS} (lim : Int32) (h : MR α μ) (g : GE α) {k s : Nat} {v : Int32} (hk : k < a_c α) (hs : s ≤ a_S α k) (hv : ¬ v = 0) {post : Int32 → MS → Prop} (h0 : a_S α k < s + 2 → ∀ μ', MR (a_sT α k 0) μ' → post 0 μ') (h1 : s + 2 ≤ a_S α k → ∀ μ', MR (a_part (a_sT α k 0) k s v) μ' → post 1 μ') : wM_cut lim μ (nI k) (nI s) post := by
  have hc := g.c
  have hS := g.sz hk
  have u := h.use hk
  unfold wM_cut
  rw [s_cl (show k < 100000 by omega), show m_sz (m_sus μ (upd (m_us μ) k 1)) k = m_sz μ k from rfl, h.sz hk, s_sub hs]
  have i0 : vp_in (nI k) 258 := s_in (by omega) (by omega)
  refine ⟨i0, i0, fun q => ?_, fun q => ?_⟩
  · have q := (s_le (a := 2) (by omega) (by omega)).mp q
    exact M_part lim u g hk hs hv (fun μ' hm => h1 (by omega) μ' hm)
  · have q : ¬ 2 ≤ a_S α k - s := fun z => q ((s_le (a := 2) (by omega) (by omega)).mpr z)
    exact h0 (by omega) _ u
