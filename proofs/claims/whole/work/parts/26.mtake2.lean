theorem GE.part {α : AS} (g : GE α) {k s : Nat} {v : Int32} (hk : k < a_c α) (h2 : 2 ≤ s) (hs : s + 2 ≤ a_S α k) : GE (a_part α k s v) := by
  have hF := g.2.1 k hk
  refine ⟨?_, ?_, ?_⟩
  · show a_ins (a_F α) k (a_F α k + s) 0 = 0
    rw [a_ins_lo (by omega)]; exact g.1
  · intro j hj
    have hj : j < a_c α + 1 := hj
    show a_ins (a_F α) k (a_F α k + s) (j + 1) = a_ins (a_F α) k (a_F α k + s) j + va_up (a_ins (a_S α) k (a_S α k - s)) k s j ∧ 2 ≤ va_up (a_ins (a_S α) k (a_S α k - s)) k s j
    rcases (show j < k ∨ j = k ∨ j = k + 1 ∨ k + 1 < j by omega) with r | r | r | r
    · rw [a_ins_lo (by omega), a_ins_lo (by omega), up_ne (by omega), a_ins_lo (by omega)]
      exact g.2.1 j (by omega)
    · subst r
      rw [a_ins_at, a_ins_lo (by omega), up_at]
      omega
    · subst r
      rw [a_ins_hi (by omega), a_ins_at, up_ne (by omega), a_ins_at]
      show a_F α (k + 1) = _ ∧ _
      omega
    · rw [a_ins_hi (by omega), a_ins_hi (by omega), up_ne (by omega), a_ins_hi (by omega)]
      have := g.2.1 (j - 1) (by omega)
      rw [show j - 1 + 1 = j by omega] at this
      rw [show j + 1 - 1 = j by omega]
      exact this
  · show a_ins (a_F α) k (a_F α k + s) (a_c α + 1) ≤ 512
    rw [a_ins_hi (by omega)]
    exact g.2.2
theorem GE.join {α : AS} (g : GE α) {k : Nat} (hk : k + 1 < a_c α) : GE (a_join α k) := by
  have hF := g.2.1 k (by omega)
  have hF2 := g.2.1 (k + 1) hk
  refine ⟨?_, ?_, ?_⟩
  · show a_del (a_F α) k 0 = 0
    rw [a_del_lo (by omega)]; exact g.1
  · intro j hj
    have hj : j < a_c α - 1 := hj
    show a_del (a_F α) k (j + 1) = a_del (a_F α) k j + va_up (a_del (a_S α) k) k (a_S α k + a_S α (k + 1)) j ∧ 2 ≤ va_up (a_del (a_S α) k) k (a_S α k + a_S α (k + 1)) j
    rcases (show j < k ∨ j = k ∨ k < j by omega) with r | r | r
    · rw [a_del_lo (by omega), a_del_lo (by omega), up_ne (by omega), a_del_lo (by omega)]
      exact g.2.1 j (by omega)
    · subst r
      rw [a_del_hi (by omega), a_del_lo (by omega), up_at]
      omega
    · rw [a_del_hi (by omega), a_del_hi (by omega), up_ne (by omega), a_del_hi (by omega)]
      exact g.2.1 (j + 1) (by omega)
  · show a_del (a_F α) k (a_c α - 1) ≤ 512
    rw [a_del_hi (by omega), show a_c α - 1 + 1 = a_c α by omega]
    exact g.2.2
theorem M_vicat {α : AS} {μ : MS} (lim : Int32) (h : MR α μ) (g : GE α) (hv : a_V α = -1 ∨ ∃ j, j < a_c α ∧ a_V α = nI (a_F α j)) {K : Int32 → MS → Prop} (h0 : a_V α = -1 → K (-1) μ) (h1 : ∀ j, j < a_c α → a_V α = nI (a_F α j) → K (nI j) μ) : (0 ≤ m_vi μ → wM_at lim μ (m_vi μ) K) ∧ (¬ 0 ≤ m_vi μ → K (-1) μ) := by
  rw [h.vi]
  rcases hv with e | ⟨j, hj, e⟩
  · refine ⟨fun q => ?_, fun _ => h0 e⟩
    rw [e] at q
    exact absurd q (by decide)
  · have hl := g.le (Nat.le_of_lt hj)
    refine ⟨fun _ => ?_, fun q => ?_⟩
    · rw [e]
      exact M_atk lim h g hj (h1 j hj e)
    · rw [e] at q
      exact absurd (s_pos' (by omega)) q
theorem M_takeSmall {n : Nat} {α : AS} {μ : MS} (lim : Int32) (h : MR α μ) (w : WF n α) {s : Nat} (hs2 : 2 ≤ s) (hs : s < 16) {post : Int32 → MS → Prop} (hp : ∀ k β μ', TS α s k β → MR β μ' → post (nI k) μ') (hn : NoSt α s → post (-1) μ) : wM_takeSmall lim μ (nI s) post := by
  have g := w.ge
  have hc := g.c
  have body : wM_takeSmall_15 lim μ (nI s) (nI s) (nI (hi1 s)) post := by
    have hh : hi1 s < 100000 := by unfold hi1; split <;> omega
    unfold wM_takeSmall_15
    refine M_best lim h w (by omega) hh (fun b hb => ?_) (fun hnc => ?_)
    · have hb1 := hb.1
      refine ⟨fun q => absurd q (s_pos (by omega)), fun q => ⟨s_in (by omega) (by omega), ?_⟩⟩
      rw [s_cl (by omega)]
      exact hp b _ _ (Or.inl ⟨hb, rfl⟩) (h.use hb1)
    · refine ⟨fun _ => ?_, fun q => absurd (by decide) q⟩
      refine M_fromVictim lim h w (by omega) (fun v hv tv hsv μ' hm => ⟨fun q => absurd q (s_pos (by omega)), fun q => hp v _ μ' (Or.inr (Or.inl ⟨hnc, hv, tv, hsv, rfl⟩)) hm⟩) (fun hnv => ⟨fun _ => ?_, fun q => absurd (by decide) q⟩)
      rw [s_1]
      refine M_best lim h w (hi := 1000) (by omega) (by omega) (fun b hb => ?_) (fun hnc2 => ?_)
      · have hb1 := hb.1
        have hsb : s ≤ a_S α b := by have := hb.2.1.2.1; omega
        refine ⟨fun _ => ?_, fun q => absurd (s_pos' (by omega)) q⟩
        refine M_cut lim h g (v := 3) hb1 hsb (by decide) (fun q3 μ' hm => ⟨fun _ => hp b _ μ' (Or.inr (Or.inr ⟨hnc, hnv, hb, Or.inl ⟨q3, rfl⟩⟩)) hm, fun q4 => absurd rfl q4⟩) (fun q3 μ' hm => ⟨fun q4 => absurd q4 (by decide), fun _ => ?_⟩)
        have g1 : GE (a_part (a_sT α b 0) b s 3) := GE.part (α := a_sT α b 0) g hb1 hs2 q3
        have last : ∀ (β : AS) (μ' : MS), MR β μ' → a_c β = a_c α + 1 → a_F β (b + 1) = a_F α b + s → post (nI b) (m_svi μ' (nI (a_F α b + s))) → wM_takeSmall_99 lim μ' (nI b) post := by
          intro β μ' hm e1 e2 hq
          unfold wM_takeSmall_99
          rw [s_1, s_cl (show b + 1 < 100000 by omega), hm.fi (by omega), e2]
          exact ⟨s_in (by omega) (by omega), hq⟩
        have hF1 : a_F (a_part (a_sT α b 0) b s 3) (b + 1) = a_F α b + s := a_ins_at
        rcases w.2.2.2.2.2 with e | ⟨j, hj, e, t⟩
        · refine M_vicat lim hm g1 (Or.inl e) (fun _ => ?_) (fun j hj ej => ?_)
          · refine ⟨fun _ => last _ _ hm rfl hF1 (hp b _ _ (Or.inr (Or.inr ⟨hnc, hnv, hb, Or.inr (Or.inl ⟨q3, e, rfl⟩)⟩)) (hm.vic _)), fun q => absurd (by decide) q⟩
          · have hl := g1.le (Nat.le_of_lt hj)
            exact absurd ((show a_V α = _ from ej).symm.trans e) (s_m1 (by omega))
        · have hjb : j ≠ b := fun z => by
            subst z
            rcases hb.2.1.1 with z | z <;> rw [z] at t <;> exact absurd t (by decide)
          have hj' : (if j < b then j else j + 1) < a_c α + 1 := by split <;> omega
          have eF : a_F (a_part (a_sT α b 0) b s 3) (if j < b then j else j + 1) = a_F α j := by
            show a_ins (a_F α) b (a_F α b + s) _ = _
            split
            · exact a_ins_lo (by omega)
            · rw [a_ins_hi (by omega)]; rfl
          have eT : a_T (a_part (a_sT α b 0) b s 3) (if j < b then j else j + 1) = 3 := by
            show a_ins (va_up (a_T α) b 0) b 3 _ = _
            split
            · rw [a_ins_lo (by omega), up_ne (by omega)]; exact t
            · rw [a_ins_hi (by omega), show j + 1 - 1 = j by omega, up_ne (by omega)]; exact t
          have hl := g.le (Nat.le_of_lt hj)
          rw [hm.vi, show a_V (a_part (a_sT α b 0) b s 3) = nI (a_F α j) from e, ← eF]
          refine ⟨fun _ => M_atk lim hm g1 hj' ?_, fun q => absurd (s_pos' (by rw [eF]; omega)) q⟩
          refine ⟨fun q => absurd q (s_pos (by omega)), fun q => ?_⟩
          refine M_store lim hm g1 (v := a_code (a_S α j)) hj' (a_code_n _).1 (by rw [eT]; decide) (fun μ2 hm2 => ?_)
          exact last _ _ hm2 rfl hF1 (hp b _ _ (Or.inr (Or.inr ⟨hnc, hnv, hb, Or.inr (Or.inr ⟨q3, j, hj, t, rfl⟩)⟩)) (hm2.vic _))
      · refine ⟨fun q => absurd q (by decide), fun _ => hn ⟨fun i hi hcd => ?_, hnv⟩⟩
        rcases (show a_S α i = s ∨ s + 1 ≤ a_S α i by have := hcd.2.1; omega) with z | z
        · exact hnc i hi ⟨hcd.1, by omega, by unfold hi1; split <;> omega⟩
        · exact hnc2 i hi ⟨hcd.1, z, hcd.2.2⟩
  refine ⟨fun q => ?_, fun q => ?_⟩
  · have q := (s_le (a := 15) (by omega) (by omega)).mp q
    have e : hi1 s = s := by unfold hi1; rw [if_neg (by omega)]
    rw [e] at body
    exact body
  · have q : ¬ 15 ≤ s := fun z => q ((s_le (a := 15) (by omega) (by omega)).mpr z)
    have e : hi1 s = s + 1 := by unfold hi1; rw [if_pos (by omega)]
    rw [e] at body
    rw [s_1]
    exact body
theorem M_takeLarge {n : Nat} {α : AS} {μ : MS} (lim : Int32) (h : MR α μ) (w : WF n α) {s : Nat} (hs : 16 ≤ s) (hs9 : s < 90000) {post : Int32 → MS → Prop} (hp : ∀ k β μ', TL α s k β → MR β μ' → post (nI k) μ') (hn : NoSt α s → post (-1) μ) : wM_takeLarge lim μ (nI s) post := by
  have g := w.ge
  have hc := g.c
  have p62 : ∀ b, BstU α s 1000 (a_c α) b → (∀ v, v < a_c α → a_T α v = 3 → a_S α v < s ∨ a_S α b < a_S α v) → wM_takeLarge_62 lim μ (nI s) (nI b) post := by
    intro b hb hv
    have hb1 := hb.1
    have hsb := hb.2.1.2.1
    unfold wM_takeLarge_62
    refine M_cut lim h g (v := 5) hb1 hsb (by decide) (fun q μ' hm => ⟨fun _ => hp b _ μ' (Or.inl ⟨hb, hv, ?_⟩) hm, fun q4 => absurd rfl q4⟩) (fun q μ' hm => ⟨fun q4 => absurd q4 (by decide), fun _ => ?_⟩)
    · unfold cutS; rw [if_pos q]
    · have g1 : GE (a_part (a_sT α b 0) b s 5) := GE.part (α := a_sT α b 0) g hb1 (by omega) q
      rw [s_1]
      refine M_store lim hm g1 (v := a_code (a_S α b - s)) (show b + 1 < a_c α + 1 by omega) (a_code_n _).1 (by rw [show a_T (a_part (a_sT α b 0) b s 5) (b + 1) = 5 from a_ins_at]; decide) (fun μ2 hm2 => hp b _ μ2 (Or.inl ⟨hb, hv, ?_⟩) hm2)
      unfold cutS; rw [if_neg (by omega)]
  have p80 : (∀ v, v < a_c α → a_T α v = 3 → s ≤ a_S α v → ∀ b, BstU α s 1000 (a_c α) b → a_S α v ≤ a_S α b) → (NV α s → NC α s 1000) → wM_takeLarge_80 lim μ (nI s) post := by
    intro hv hnc
    unfold wM_takeLarge_80
    exact M_fromVictim lim h w (by omega) (fun v hv1 tv hsv μ' hm => hp v _ μ' (Or.inr ⟨hv1, tv, hsv, hv v hv1 tv hsv, rfl⟩) hm) (fun hnv => hn ⟨hnc hnv, hnv⟩)
  unfold wM_takeLarge
  have hvv : a_V α = -1 ∨ ∃ j, j < a_c α ∧ a_V α = nI (a_F α j) := w.2.2.2.2.2.elim Or.inl (fun ⟨j, hj, e, _⟩ => Or.inr ⟨j, hj, e⟩)
  refine M_best lim h w (hi := 1000) (by omega) (by omega) (fun b hb => ?_) (fun hnc => ?_)
  · have hb1 := hb.1
    have hSb := g.sz hb1
    refine M_vicat lim h g hvv (fun e => ?_) (fun j hj e => ?_)
    · exact ⟨fun q => absurd q (s_pos (by omega)), fun _ => ⟨fun _ => p62 b hb (fun v hv tv => absurd tv (w.vn e hv)), fun q => absurd (by decide) q⟩⟩
    · have t := w.v3 hj e
      have hSj := g.sz hj
      have ij : vp_in (nI j) 258 := s_in (by omega) (by omega)
      have ib : vp_in (nI b) 258 := s_in (by omega) (by omega)
      unfold wM_takeLarge_28
      rw [s_cl (show j < 100000 by omega), s_cl (show b < 100000 by omega), h.sz hj, h.sz hb1, s_lt (by omega) (by omega), s_le (by omega) (by omega)]
      refine ⟨fun q => absurd q (s_pos (by omega)), fun _ => ⟨fun q => absurd q (s_pos (by omega)), fun _ => ⟨ij, fun q => ?_, fun q => ⟨ib, ij, fun q2 => ?_, fun q2 => ?_⟩⟩⟩⟩
      · exact p62 b hb (fun v hv tv => by have := w.vu hv hj tv t; subst this; exact Or.inl q)
      · exact p80 (fun v hv tv _ b2 hb2 => by have := w.vu hv hj tv t; subst this; have := hb2.uniq hb; subst this; exact q2) (fun hnv => absurd (hnv j hj t) q)
      · exact p62 b hb (fun v hv tv => by have := w.vu hv hj tv t; subst this; exact Or.inr (by omega))
  · have z80 : wM_takeLarge_80 lim μ (nI s) post := p80 (fun v hv tv _ b2 hb2 => absurd hb2.2.1 (hnc b2 hb2.1)) (fun _ => hnc)
    refine M_vicat lim h g hvv (fun e => ?_) (fun j hj e => ?_)
    · exact ⟨fun _ => z80, fun q => absurd (by decide) q⟩
    · exact ⟨fun _ => z80, fun q => absurd (by decide) q⟩
