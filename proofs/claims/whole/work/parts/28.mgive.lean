def bI (b : Bool) : Int32 := match b with
  | true => 1
  | false => 0
def gFin (α : AS) (k : Nat) (h : Bool) : AS :=
  if a_F α k + a_S α k = a_F α (a_c α) then a_sT (a_sV α (if h = true then -1 else a_V α)) k 4
  else if h = true then a_sT (a_sV α (nI (a_F α k))) k 3 else a_stor2 α k (a_code (a_S α k))
def g58 (α : AS) (k : Nat) (h : Bool) : AS :=
  if k = 0 ∨ a_T α (k - 1) = 0 then gFin α k h else gFin (a_join α (k - 1)) (k - 1) (h || decide (a_V α = nI (a_F α (k - 1))))
def gGive (α : AS) (k : Nat) : AS :=
  if k + 1 < a_c α ∧ ¬ a_T α (k + 1) = 0 then g58 (a_join (a_sT α k 5) k) k (decide (a_V α = nI (a_F α (k + 1)))) else g58 (a_sT α k 5) k false
theorem M_give119 {α : AS} {μ : MS} (lim : Int32) (h : MR α μ) (g : GE α) {k : Nat} (hk : k < a_c α) (hT : ¬ a_T α k = 0) (b : Bool) {post : MS → Prop} (hp : ∀ μ', MR (gFin α k b) μ' → post μ') : wM_give_119 lim μ (nI k) (bI b) (if b = true then -1 else a_V α) post := by
  have hc := g.c
  have hS := g.sz hk
  have hE := g.2.2
  have i0 : vp_in (nI k) 258 := s_in (by omega) (by omega)
  have hm := h.vic (if b = true then -1 else a_V α)
  have hk2 : k < a_c (a_sV α (if b = true then -1 else a_V α)) := hk
  unfold wM_give_119
  rw [s_cl (show k < 100000 by omega), hm.fi hk2, hm.sz hk2, hm.en, nI_add, s_eq (show _ < 100000 by show a_F α k + a_S α k < 100000; omega) (show _ < 100000 by show a_F α (a_c α) < 100000; omega)]
  refine ⟨i0, i0, fun q => hp _ ?_, fun q => ?_⟩
  · replace q : a_F α k + a_S α k = a_F α (a_c α) := q
    unfold gFin
    rw [if_pos q]
    exact hm.code hT (by decide)
  · replace q : ¬ a_F α k + a_S α k = a_F α (a_c α) := q
    refine ⟨fun q2 => ?_, fun q2 => ⟨i0, ?_⟩⟩
    · have hb : b = false := by
        cases b
        · rfl
        · exact absurd q2 (by decide)
      subst hb
      refine M_store lim hm g (v := a_code (a_S α k)) hk (a_code_n _).1 hT (fun μ' hm2 => hp μ' ?_)
      unfold gFin
      rw [if_neg q, if_neg (by decide)]
      exact hm2
    · have hb : b = true := by
        cases b
        · exact absurd rfl q2
        · rfl
      subst hb
      refine hp _ ?_
      unfold gFin
      rw [if_neg q, if_pos rfl]
      exact (h.vic (nI (a_F α k))).code hT (by decide)
theorem M_give106 {α : AS} {μ : MS} (lim : Int32) (h : MR α μ) (g : GE α) {k : Nat} (hk : k < a_c α) (hT : ¬ a_T α k = 0) (b : Bool) {post : MS → Prop} (hp : ∀ μ', MR (gFin α k b) μ' → post μ') : wM_give_106 lim μ (nI k) (bI b) post := by
  have r := M_give119 lim h g hk hT b hp
  refine ⟨fun q => ?_, fun q => ?_⟩
  · have hb : b = false := by
      cases b
      · rfl
      · exact absurd q (by decide)
    subst hb
    rw [h.vi]
    exact r
  · have hb : b = true := by
      cases b
      · exact absurd rfl q
      · rfl
    subst hb
    exact r
theorem M_give58 {α : AS} {μ : MS} (lim : Int32) (h : MR α μ) (g : GE α) {k : Nat} (hk : k < a_c α) (hT : ¬ a_T α k = 0) (b : Bool) {post : MS → Prop} (hp : ∀ μ', MR (g58 α k b) μ' → post μ') : wM_give_58 lim μ (nI k) (bI b) post := by
  have hc := g.c
  have hE := g.2.2
  refine ⟨fun q => ?_, fun q => ?_⟩
  · have q := (s_le (b := 0) (by omega) (by omega)).mp q
    refine M_give106 lim h g hk hT b (fun μ' hm => hp μ' ?_)
    unfold g58
    rw [if_pos (Or.inl (by omega))]
    exact hm
  · have q : 0 < k := by
      rcases Nat.eq_zero_or_pos k with z | z
      · subst z; exact absurd (by decide) q
      · exact z
    have hk1 : k - 1 < a_c α := by omega
    have hl := g.le (Nat.le_of_lt hk1)
    rw [s_m k q, s_cl (show k - 1 < 100000 by omega), h.fi hk1, h.vi]
    have i0 : vp_in (nI (k - 1)) 258 := s_in (by omega) (by omega)
    refine ⟨i0, fun q2 => ?_, fun q2 => ?_⟩
    · have q2 : a_T α (k - 1) = 0 := Decidable.byContradiction fun z => q2 ((h.us0 hk1).mpr z)
      refine M_give106 lim h g hk hT b (fun μ' hm => hp μ' ?_)
      unfold g58
      rw [if_pos (Or.inr q2)]
      exact hm
    · have q2 := (h.us0 hk1).mp q2
      have p97 : ∀ b2 : Bool, b2 = (b || decide (a_V α = nI (a_F α (k - 1)))) → wM_give_97 lim μ (nI k) (bI b2) post := by
        intro b2 hb2
        unfold wM_give_97
        rw [s_d1 q]
        refine M_join lim h g (k := k - 1) (by omega) (fun μ' hm => ?_)
        have hk2 : k - 1 < a_c (a_join α (k - 1)) := show k - 1 < a_c α - 1 by omega
        refine M_give106 lim hm (g.join (by omega)) hk2 (by rw [show a_T (a_join α (k - 1)) (k - 1) = a_T α (k - 1) from a_del_lo (Nat.le_refl _)]; exact q2) b2 (fun μ2 hm2 => hp μ2 ?_)
        unfold g58
        rw [if_neg (fun z => z.elim (by omega) q2), ← hb2]
        exact hm2
      refine ⟨fun q3 => ?_, fun q3 => ⟨i0, fun q4 => ?_, fun q4 => ?_⟩⟩
      · have hb : b = true := by
          cases b
          · exact absurd rfl q3
          · rfl
        exact p97 true (by rw [hb]; rfl)
      · have hb : b = false := by
          cases b
          · rfl
          · exact absurd q3 (by decide)
        exact p97 false (by rw [hb, decide_eq_false (fun z => q4 z.symm)]; rfl)
      · exact p97 true (by rw [decide_eq_true q4.symm]; cases b <;> rfl)
theorem M_give {α : AS} {μ : MS} (lim : Int32) (h : MR α μ) (g : GE α) {k : Nat} (hk : k < a_c α) {post : MS → Prop} (hp : ∀ μ', MR (gGive α k) μ' → post μ') : wM_give lim μ (nI k) post := by
  have hc := g.c
  have hE := g.2.2
  have hm := h.unuse (v := 5) hk (by decide)
  have e5 : a_T (a_sT α k 5) k = 5 := up_at
  have hT5 : ¬ a_T (a_sT α k 5) k = 0 := by rw [e5]; decide
  have i0 : vp_in (nI k) 258 := s_in (by omega) (by omega)
  unfold wM_give
  rw [s_cl (show k < 100000 by omega), s_1, hm.ch, hm.vi, s_le (show _ < 100000 by show a_c α < 100000; omega) (by omega)]
  refine ⟨i0, fun q => ?_, fun q => ?_⟩
  · have q : a_c α ≤ k + 1 := q
    refine M_give58 lim hm g hk hT5 false (fun μ' hm2 => hp μ' ?_)
    unfold gGive
    rw [if_neg (fun z => by omega)]
    exact hm2
  · have q : ¬ a_c α ≤ k + 1 := q
    have hk1 : k + 1 < a_c (a_sT α k 5) := show k + 1 < a_c α by omega
    have hl := g.le (show k + 1 ≤ a_c α by omega)
    have eT : a_T (a_sT α k 5) (k + 1) = a_T α (k + 1) := up_ne (by omega)
    rw [s_cl (show k + 1 < 100000 by omega), hm.fi hk1]
    have i1 : vp_in (nI (k + 1)) 258 := s_in (by omega) (by omega)
    refine ⟨i1, fun q2 => ?_, fun q2 => ?_⟩
    · have q2 : a_T α (k + 1) = 0 := Decidable.byContradiction fun z => q2 ((hm.us0 hk1).mpr (by rw [eT]; exact z))
      refine M_give58 lim hm g hk hT5 false (fun μ' hm2 => hp μ' ?_)
      unfold gGive
      rw [if_neg (fun z => z.2 q2)]
      exact hm2
    · have q2 := (hm.us0 hk1).mp q2
      rw [eT] at q2
      have p52 : ∀ b : Bool, b = decide (a_V α = nI (a_F α (k + 1))) → wM_give_52 lim (m_sus μ (upd (m_us μ) k 0)) (nI k) (bI b) post := by
        intro b hb
        unfold wM_give_52
        refine M_join lim hm g (k := k) hk1 (fun μ' hm2 => ?_)
        have hk2 : k < a_c (a_join (a_sT α k 5) k) := show k < a_c α - 1 by omega
        refine M_give58 lim hm2 (GE.join (α := a_sT α k 5) g hk1) hk2 (by rw [show a_T (a_join (a_sT α k 5) k) k = a_T (a_sT α k 5) k from a_del_lo (Nat.le_refl _)]; exact hT5) b (fun μ2 hm3 => hp μ2 ?_)
        unfold gGive
        rw [if_pos ⟨by omega, q2⟩, ← hb]
        exact hm3
      refine ⟨i1, fun q4 => ?_, fun q4 => ?_⟩
      · exact p52 false (by rw [decide_eq_false (fun z => q4 z.symm)])
      · exact p52 true (by rw [decide_eq_true (show a_V α = nI (a_F α (k + 1)) from q4.symm)])
