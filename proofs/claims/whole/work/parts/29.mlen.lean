def aSh (α : AS) (k s : Nat) : AS := if a_S α k < s + 2 then α else gGive (a_part α k s 5) (k + 1)
theorem M_shorten {α : AS} {μ : MS} (lim : Int32) (h : MR α μ) (g : GE α) {k s : Nat} (hk : k < a_c α) (h2 : 2 ≤ s) (hs : s ≤ a_S α k) {post : MS → Prop} (hp : ∀ μ', MR (aSh α k s) μ' → post μ') : wM_shorten lim μ (nI k) (nI s) post := by
  have hc := g.c
  have hS := g.sz hk
  unfold wM_shorten
  rw [s_cl (show k < 100000 by omega), h.sz hk, s_sub hs, s_1]
  refine ⟨s_in (by omega) (by omega), fun q => hp μ ?_, fun q => ?_⟩
  · have q := (s_lt (b := 2) (by omega) (by omega)).mp q
    unfold aSh
    rw [if_pos (by omega)]
    exact h
  · have q : ¬ a_S α k - s < 2 := fun z => q ((s_lt (b := 2) (by omega) (by omega)).mpr z)
    refine M_part lim h g (v := 5) hk hs (by decide) (fun μ' hm => ?_)
    refine M_give lim hm (g.part hk h2 (by omega)) (show k + 1 < a_c α + 1 by omega) (fun μ2 hm2 => hp μ2 ?_)
    unfold aSh
    rw [if_neg (by omega)]
    exact hm2
def aLen (α : AS) (k s : Nat) : AS :=
  if a_S α k + a_S α (k + 1) < s + 2 then (if a_T α (k + 1) = 3 then a_sV (a_sT (a_join α k) k 0) (-1) else a_sT (a_join α k) k 0)
  else if a_T α (k + 1) = 3 then a_sV (a_part (a_sT (a_join α k) k 0) k s 3) (nI (a_F α k + s))
  else if a_T α (k + 1) = 4 then a_part (a_sT (a_join α k) k 0) k s 4
  else a_stor2 (a_part (a_sT (a_join α k) k 0) k s 5) (k + 1) (a_code (a_S α k + a_S α (k + 1) - s))
def LN (n : Nat) (α : AS) (k s : Nat) (β : AS) : Prop :=
  (k + 1 < a_c α ∧ ¬ a_T α (k + 1) = 0 ∧ s ≤ a_S α k + a_S α (k + 1) ∧ β = aLen α k s) ∨
  (k + 2 = a_c α ∧ a_T α (k + 1) = 4 ∧ a_S α k + a_S α (k + 1) < s ∧ a_F α (a_c α) + up16 (s - (a_S α k + a_S α (k + 1))) ≤ n ∧ β = aLen (a_growT α (k + 1) (up16 (s - (a_S α k + a_S α (k + 1))))) k s) ∨
  (k + 1 = a_c α ∧ a_F α (a_c α) + up16 (s - a_S α k) ≤ n ∧ β = aLen (a_grow0 α (up16 (s - a_S α k))) k s)
def LF (n : Nat) (α : AS) (k s : Nat) : Prop :=
  (k + 1 < a_c α ∧ a_T α (k + 1) = 0) ∨
  (k + 2 < a_c α ∧ ¬ a_T α (k + 1) = 0 ∧ a_S α k + a_S α (k + 1) < s) ∨
  (k + 2 = a_c α ∧ a_T α (k + 1) = 4 ∧ a_S α k + a_S α (k + 1) < s ∧ n < a_F α (a_c α) + up16 (s - (a_S α k + a_S α (k + 1)))) ∨
  (k + 1 = a_c α ∧ n < a_F α (a_c α) + up16 (s - a_S α k))
theorem LN_uniq {n : Nat} {α : AS} {k s : Nat} {b1 b2 : AS} (h1 : LN n α k s b1) (h2 : LN n α k s b2) : b1 = b2 := by
  rcases h1 with ⟨x1, x2, x3, rfl⟩ | ⟨x1, x2, x3, x4, rfl⟩ | ⟨x1, x2, rfl⟩ <;> rcases h2 with ⟨y1, y2, y3, rfl⟩ | ⟨y1, y2, y3, y4, rfl⟩ | ⟨y1, y2, rfl⟩ <;> first | rfl | omega
theorem LN_no {n : Nat} {α : AS} {k s : Nat} {b : AS} (h1 : LN n α k s b) (h2 : LF n α k s) : False := by
  rcases h1 with ⟨x1, x2, x3, -⟩ | ⟨x1, x2, x3, x4, -⟩ | ⟨x1, x2, -⟩ <;> rcases h2 with ⟨y1, y2⟩ | ⟨y1, y2, y3⟩ | ⟨y1, y2, y3, y4⟩ | ⟨y1, y2⟩ <;> first | omega | exact absurd y2 x2 | (rw [x2] at y2; exact absurd y2 (by decide))
/-- 'state' is what stateOf answers of the free chunk behind -/
theorem M_len87 {n : Nat} {α : AS} {μ : MS} (lim : Int32) (h : MR α μ) (w : WF n α) {k s : Nat} (hk : k < a_c α) (h2 : 2 ≤ s) (hs9 : s < 1000) {post : Int32 → MS → Prop} (hp : k + 1 < a_c α → ¬ a_T α (k + 1) = 0 → s ≤ a_S α k + a_S α (k + 1) → ∀ μ', MR (aLen α k s) μ' → post 1 μ') (hf : (a_c α ≤ k + 1 ∨ a_T α (k + 1) = 0 ∨ a_S α k + a_S α (k + 1) < s) → post 0 μ) : wM_lengthen_87 lim μ (nI k) (nI s) post := by
  have g := w.ge
  have hc := g.c
  unfold wM_lengthen_87
  rw [s_1, h.ch, s_le (by omega) (by omega), s_cl (show k + 1 < 100000 by omega), s_cl (show k < 100000 by omega), h.sz hk]
  refine ⟨fun q => hf (Or.inl q), fun q => ?_⟩
  have hk1 : k + 1 < a_c α := by omega
  have hS := g.sz hk
  have hS1 := g.sz hk1
  have i0 : vp_in (nI k) 258 := s_in (by omega) (by omega)
  have i1 : vp_in (nI (k + 1)) 258 := s_in (by omega) (by omega)
  rw [h.sz hk1, nI_add, s_le (by omega) (by omega)]
  refine ⟨i1, fun q2 => hf (Or.inr (Or.inl (Decidable.byContradiction fun z => q2 ((h.us0 hk1).mpr z)))), fun q2 => ⟨i0, i1, fun q3 => ?_, fun q3 => hf (Or.inr (Or.inr (by omega)))⟩⟩
  have q2 := (h.us0 hk1).mp q2
  refine M_stateOf lim h w hk1 ?_
  refine M_join lim h g hk1 (fun μ1 hm1 => ?_)
  have g1 := g.join hk1
  have hk2 : k < a_c (a_join α k) := show k < a_c α - 1 by omega
  have eS : a_S (a_join α k) k = a_S α k + a_S α (k + 1) := up_at
  have eF : a_F (a_join α k) k = a_F α k := a_del_lo (Nat.le_refl _)
  have fin := hp hk1 q2 q3
  unfold aLen at fin
  by_cases t3 : a_T α (k + 1) = 3
  · rw [if_pos t3, if_pos t3] at fin
    refine M_cut lim hm1 g1 (v := 3) hk2 (by rw [eS]; exact q3) (by decide) (fun q4 μ2 hm2 => ⟨fun z => absurd t3 z, fun _ => ⟨fun _ => ?_, fun z => absurd rfl z⟩⟩) (fun q4 μ2 hm2 => ⟨fun z => absurd t3 z, fun _ => ⟨fun z => absurd z (by decide), fun _ => ⟨i1, ?_⟩⟩⟩)
    · rw [eS] at q4
      rw [if_pos q4] at fin
      exact fin _ (hm2.vic (-1))
    · rw [eS] at q4
      rw [if_neg (by omega)] at fin
      have ef : m_fi μ2 (k + 1) = nI (a_F α k + s) := by
        rw [hm2.fi (show k + 1 < a_c (a_join α k) + 1 by omega), show a_F (a_part (a_sT (a_join α k) k 0) k s 3) (k + 1) = a_F (a_join α k) k + s from a_ins_at, eF]
      rw [ef]
      exact fin _ (hm2.vic _)
  · rw [if_neg t3, if_neg t3] at fin
    by_cases t4 : a_T α (k + 1) = 4
    · rw [if_pos t4] at fin
      refine M_cut lim hm1 g1 (v := 4) hk2 (by rw [eS]; exact q3) (by decide) (fun q4 μ2 hm2 => ⟨fun _ => ⟨fun _ => ?_, fun z => absurd rfl z⟩, fun z => absurd z t3⟩) (fun q4 μ2 hm2 => ⟨fun _ => ⟨fun z => absurd z (by decide), fun _ => ⟨fun _ => ?_, fun z => absurd t4 z⟩⟩, fun z => absurd z t3⟩)
      · rw [eS] at q4
        rw [if_pos q4] at fin
        exact fin _ hm2
      · rw [eS] at q4
        rw [if_neg (by omega)] at fin
        exact fin _ hm2
    · rw [if_neg t4] at fin
      refine M_cut lim hm1 g1 (v := 5) hk2 (by rw [eS]; exact q3) (by decide) (fun q4 μ2 hm2 => ⟨fun _ => ⟨fun _ => ?_, fun z => absurd rfl z⟩, fun z => absurd z t3⟩) (fun q4 μ2 hm2 => ⟨fun _ => ⟨fun z => absurd z (by decide), fun _ => ⟨fun z => absurd z t4, fun _ => ?_⟩⟩, fun z => absurd z t3⟩)
      · rw [eS] at q4
        rw [if_pos q4] at fin
        exact fin _ hm2
      · rw [eS] at q4
        rw [if_neg (by omega)] at fin
        have g2 := GE.part (α := a_sT (a_join α k) k 0) (v := 5) g1 hk2 h2 (by show s + 2 ≤ a_S (a_join α k) k; rw [eS]; exact q4)
        refine M_store lim hm2 g2 (v := a_code (a_S α k + a_S α (k + 1) - s)) (show k + 1 < a_c (a_join α k) + 1 by omega) (a_code_n _).1 (by rw [show a_T (a_part (a_sT (a_join α k) k 0) k s 5) (k + 1) = 5 from a_ins_at]; decide) (fun μ3 hm3 => fin _ hm3)
