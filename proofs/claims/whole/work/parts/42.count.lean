theorem unit_loop {n : Nat} {α : AS} (w : WF n α) {V : Type} (Lp : Nat → V → Nat → Prop) (I : Nat → V → Prop) (hend : ∀ f v, I (a_c α) v → Lp (f + 1) v (a_F α (a_c α))) (hskip : ∀ f v a, a < a_F α (a_c α) → (∀ j, j < a_c α → a_F α j ≠ a) → Lp f v (a + 1) → Lp (f + 1) v a) (hch : ∀ f v m, m < a_c α → I m v → (∀ v', I (m + 1) v' → Lp f v' (a_F α m + 1)) → Lp (f + 1) v (a_F α m)) : ∀ v, I 0 v → Lp (a_F α (a_c α) + 1) v 0 := by
  have g := w.ge
  have key : ∀ f a m v, (∀ j, j < m → a_F α j < a) → m ≤ a_c α → (m < a_c α → a ≤ a_F α m) → a ≤ a_F α (a_c α) → a_F α (a_c α) < a + f → I m v → Lp f v a := by
    intro f
    induction f with
    | zero => intro a m v x1 x2 x3 x4 x5; omega
    | succ f ih =>
      intro a m v x1 x2 x3 x4 x5 hI
      by_cases q : a_F α (a_c α) ≤ a
      · have em : m = a_c α := by
          rcases Nat.lt_or_ge m (a_c α) with y | y
          · have y1 := x3 y
            have y2 := g.lt m (a_c α) y (Nat.le_refl _)
            omega
          · omega
        have ea : a = a_F α (a_c α) := by omega
        subst em
        subst ea
        exact hend f v hI
      · by_cases st : m < a_c α ∧ a = a_F α m
        · obtain ⟨hm, ea⟩ := st
          subst ea
          refine hch f v m hm hI (fun v' hI' => ?_)
          have y2 := g.2.1 m hm
          refine ih _ (m + 1) v' (fun j hj => ?_) hm (fun y3 => by omega) (by omega) (by omega) hI'
          rcases (show j < m ∨ j = m by omega) with z | z
          · have := x1 j z; omega
          · subst z; omega
        · have hne : ∀ j, j < a_c α → a_F α j ≠ a := by
            intro j hj e
            rcases Nat.lt_trichotomy j m with y | y | y
            · have := x1 j y; omega
            · subst y; exact st ⟨hj, e.symm⟩
            · have y1 := x3 (by omega)
              have y2 := g.lt m j y (by omega)
              omega
          refine hskip f v a (by omega) hne (ih (a + 1) m v (fun j hj => by have := x1 j hj; omega) x2 (fun y => ?_) (by omega) (by omega) hI)
          have := x3 y
          have := hne m y
          omega
  intro v hI
  exact key _ 0 0 v (fun j hj => absurd hj (by omega)) (by omega) (fun _ => by omega) (by omega) (by omega) hI
def cnt (P : Nat → Bool) : Nat → Nat
  | 0 => 0
  | m + 1 => cnt P m + (if P m = true then 1 else 0)
theorem cnt_le (P : Nat → Bool) : ∀ m, cnt P m ≤ m
  | 0 => Nat.le_refl _
  | m + 1 => by
    have := cnt_le P m
    show cnt P m + (if P m = true then 1 else 0) ≤ m + 1
    split <;> omega
theorem cnt_all (P : Nat → Bool) (h : ∀ j, P j = true) : ∀ m, cnt P m = m
  | 0 => rfl
  | m + 1 => by
    show cnt P m + (if P m = true then 1 else 0) = m + 1
    rw [cnt_all P h m, if_pos (h m)]
def cP (α : AS) (v : Int32) (j : Nat) : Bool := if v = 0 then decide (a_T α j = 0) else if v = 1 then true else if v = 16 then decide (a_T α j = 2) else decide (a_T α j = 1 ∧ nI (a_S α j) = v)
theorem cnt_t {P : Nat → Bool} {m : Nat} {v : Int32} (h : v = nI (cnt P m)) (hP : P m = true) : v + 1 = nI (cnt P (m + 1)) := by
  show _ = nI (cnt P m + (if P m = true then 1 else 0))
  rw [if_pos hP, h, s_1]
theorem cnt_f {P : Nat → Bool} {m : Nat} {v : Int32} (h : v = nI (cnt P m)) (hP : ¬ P m = true) : v = nI (cnt P (m + 1)) := by
  show _ = nI (cnt P m + (if P m = true then 1 else 0))
  rw [if_neg hP, h]
  rfl
theorem X_isCountedBy {n : Nat} {α : AS} (lim : Int32) {σ : XS} (h : XR n α σ) (w : WF n α) (v : Int32) {m : Nat} (hm : m < a_c α) {post : Int32 → XS → Prop} (h1 : cP α v m = true → post 1 σ) (h2 : ¬ cP α v m = true → post 0 σ) : wX_isCountedBy n lim σ v (nI (a_F α m)) post := by
  have g := w.ge
  have hE := w.2.1
  have hn := w.2.2.1
  have l := g.lt m (a_c α) hm (Nat.le_refl _)
  have i0 : vp_in (nI (a_F α m)) n := s_in (by omega) (by omega)
  unfold wX_isCountedBy
  rw [s_cl (show a_F α m < 100000 by omega), h.1.t hm, h.1.z hm]
  unfold cP at h1 h2
  refine ⟨fun e => ?_, fun e0 => ⟨fun e => ?_, fun e1 => ⟨fun e => ?_, fun e16 => ?_⟩⟩⟩
  · rw [if_pos e] at h1 h2
    exact ⟨i0, fun y => h2 (fun z => y (of_decide_eq_true z)), fun y => h1 (decide_eq_true y)⟩
  · rw [if_neg e0, if_pos e] at h1
    exact h1 rfl
  · rw [if_neg e0, if_neg e1, if_pos e] at h1 h2
    exact ⟨i0, fun y => h2 (fun z => y (of_decide_eq_true z)), fun y => h1 (decide_eq_true y)⟩
  · rw [if_neg e0, if_neg e1, if_neg e16] at h1 h2
    exact ⟨i0, fun y => h2 (fun z => y (of_decide_eq_true z).1), fun y => ⟨i0, fun y2 => h2 (fun z => y2 (of_decide_eq_true z).2), fun y2 => h1 (decide_eq_true ⟨y, y2⟩)⟩⟩
theorem sim_count {n k : Nat} {σ : XS} {μ : MS} (a : Int32) (hr : Rel n k σ μ) : wX_count n (nI n) σ a (fun r σ1 => wM_count (nI n) μ a (fun r1 μ1 => r = r1 ∧ Rel n (k + 1) σ1 μ1)) := by
  obtain ⟨h16, α, w, hm, hx⟩ := hr
  have rr : Rel n (k + 1) σ μ := ⟨h16, α, w, hm, hx⟩
  have g := w.ge
  have hc := g.c
  have hE := w.2.1
  have hn := w.2.2.1
  have hE5 := g.2.2
  have no : ∀ post : Int32 → MS → Prop, post (-1) μ → (a < 0 ∨ ¬ a ≤ 16) → wM_count (nI n) μ a post := by
    intro post hp ha
    refine ⟨fun _ => hp, fun q => ⟨fun y => ?_, fun _ => hp⟩⟩
    rcases ha with z | z
    · exact absurd z q
    · exact absurd y z
  refine ⟨fun q => no _ ⟨rfl, rr⟩ (Or.inl q), fun q => ⟨fun q2 => ?_, fun q2 => no _ ⟨rfl, rr⟩ (Or.inr q2)⟩⟩
  -- the reference
  have mpart : ∀ post : Int32 → MS → Prop, post (nI (cnt (cP α a) (a_c α))) μ → wM_count (nI n) μ a post := by
    intro post hp
    refine ⟨fun y => absurd y q, fun _ => ⟨fun _ => ⟨fun y1 => ?_, fun y1 => ?_⟩, fun y => absurd q2 y⟩⟩
    · have key : ∀ f m v, a_c α < m + f → m ≤ a_c α → v = nI (cnt (cP α a) m) → wM_count_26 (nI n) post f μ a v (nI m) := by
        intro f
        induction f with
        | zero => intro m v x1 x2; omega
        | succ f ih =>
          intro m v x1 x2 x3
          show wM_count_26_s (nI n) post (wM_count_26 (nI n) post f) μ a v (nI m)
          unfold wM_count_26_s
          rw [hm.ch, s_le (by omega) (by omega), s_1, s_cl (show m < 100000 by omega)]
          refine ⟨fun z => ?_, fun z => ?_⟩
          · have : m = a_c α := by omega
            subst this
            rw [x3]; exact hp
          · have hmc : m < a_c α := by omega
            have yes : cP α a m = true → wM_count_26 (nI n) post f μ a (v + 1) (nI (m + 1)) := fun z => ih (m + 1) _ (by omega) (by omega) (cnt_t x3 z)
            have non : ¬ cP α a m = true → wM_count_26 (nI n) post f μ a v (nI (m + 1)) := fun z => ih (m + 1) _ (by omega) (by omega) (cnt_f x3 z)
            refine M_stateOf _ hm w hmc ?_
            unfold cP at yes non
            refine ⟨fun e0 => ⟨fun e16 => ?_, fun e => ?_⟩, fun e => ?_⟩
            · rw [if_neg e0, if_neg y1, if_neg e16] at yes non
              rw [hm.sz hmc]
              exact ⟨fun z => non (fun u => z (of_decide_eq_true u).1), fun z => ⟨s_in (by omega) (by omega), fun z2 => non (fun u => z2 (of_decide_eq_true u).2), fun z2 => yes (decide_eq_true ⟨z, z2⟩)⟩⟩
            · rw [if_neg e0, if_neg y1, if_pos e] at yes non
              exact ⟨fun z => non (fun u => z (of_decide_eq_true u)), fun z => yes (decide_eq_true z)⟩
            · rw [if_pos e] at yes non
              exact ⟨fun z => non (fun u => z (of_decide_eq_true u)), fun z => yes (decide_eq_true z)⟩
      exact ⟨a_c α + 1, key _ 0 0 (by omega) (by omega) rfl⟩
    · rw [hm.ch]
      have : cnt (cP α a) (a_c α) = a_c α := cnt_all _ (fun j => by unfold cP; rw [if_neg (by rw [y1]; decide), if_pos y1]) _
      rw [this] at hp
      exact hp
  refine ⟨a_F α (a_c α) + 1, ?_⟩
  refine unit_loop w (fun f v b => wX_count_16 n (nI n) (fun r σ1 => wM_count (nI n) μ a (fun r1 μ1 => r = r1 ∧ Rel n (k + 1) σ1 μ1)) f σ a v (nI b)) (fun m v => v = nI (cnt (cP α a) m)) (fun f v hI => ?_) (fun f v b hb hne hrec => ?_) (fun f v m hmc hI hrec => ?_) 0 rfl
  · show wX_count_16_s n (nI n) _ (wX_count_16 n (nI n) _ f) σ a v _
    refine ⟨fun _ => ?_, fun z => absurd (by rw [hx.2.1]; exact (s_le (by omega) (by omega)).mpr (Nat.le_refl _)) z⟩
    rw [hI]
    exact mpart _ ⟨rfl, rr⟩
  · show wX_count_16_s n (nI n) _ (wX_count_16 n (nI n) _ f) σ a v _
    unfold wX_count_16_s
    rw [hx.2.1, s_le (by omega) (by omega), s_cl (by omega), s_1, hx.1.2 b (by omega) hne]
    exact ⟨fun z => absurd z (by omega), fun _ => ⟨s_in (by omega) (by omega), fun _ => hrec, fun z => absurd rfl z⟩⟩
  · have l := g.lt m (a_c α) hmc (Nat.le_refl _)
    show wX_count_16_s n (nI n) _ (wX_count_16 n (nI n) _ f) σ a v _
    unfold wX_count_16_s
    rw [hx.2.1, s_le (by omega) (by omega), s_cl (by omega), s_1, hx.1.t hmc]
    refine ⟨fun z => absurd z (by omega), fun _ => ⟨s_in (by omega) (by omega), fun z => absurd z (w.to hmc).ge, fun _ => ?_⟩⟩
    refine X_isCountedBy _ hx w a hmc (fun z => ⟨fun y => absurd y (by decide), fun _ => hrec _ (cnt_t hI z)⟩) (fun z => ⟨fun _ => hrec _ (cnt_f hI z), fun y => absurd rfl y⟩)
def smA (α : AS) (v : Int32) : Nat → Nat
  | 0 => 0
  | m + 1 => smA α v m + (if a_T α m = v then a_S α m else 0)
theorem smA_t {α : AS} {x v : Int32} {m : Nat} (h : x = nI (smA α v m)) (hT : a_T α m = v) : x + nI (a_S α m) = nI (smA α v (m + 1)) := by
  show _ = nI (smA α v m + (if a_T α m = v then a_S α m else 0))
  rw [if_pos hT, h, nI_add]
theorem smA_f {α : AS} {x v : Int32} {m : Nat} (h : x = nI (smA α v m)) (hT : ¬ a_T α m = v) : x = nI (smA α v (m + 1)) := by
  show _ = nI (smA α v m + (if a_T α m = v then a_S α m else 0))
  rw [if_neg hT, h]
  rfl
theorem sim_total {n k : Nat} {σ : XS} {μ : MS} (a : Int32) (hr : Rel n k σ μ) : wX_total n (nI n) σ a (fun r σ1 => wM_total (nI n) μ a (fun r1 μ1 => r = r1 ∧ Rel n (k + 1) σ1 μ1)) := by
  obtain ⟨h16, α, w, hm, hx⟩ := hr
  have rr : Rel n (k + 1) σ μ := ⟨h16, α, w, hm, hx⟩
  have g := w.ge
  have hc := g.c
  have hE := w.2.1
  have hn := w.2.2.1
  have hE5 := g.2.2
  have no : ∀ post : Int32 → MS → Prop, post (-1) μ → (a < 0 ∨ ¬ a ≤ 4) → wM_total (nI n) μ a post := by
    intro post hp ha
    refine ⟨fun _ => hp, fun q => ⟨fun y => ?_, fun _ => hp⟩⟩
    rcases ha with z | z
    · exact absurd z q
    · exact absurd y z
  refine ⟨fun q => no _ ⟨rfl, rr⟩ (Or.inl q), fun q => ⟨fun q2 => ?_, fun q2 => no _ ⟨rfl, rr⟩ (Or.inr q2)⟩⟩
  have mpart : ∀ post : Int32 → MS → Prop, post (nI (smA α a (a_c α))) μ → wM_total (nI n) μ a post := by
    intro post hp
    refine ⟨fun y => absurd y q, fun _ => ⟨fun _ => ?_, fun y => absurd q2 y⟩⟩
    have key : ∀ f m v, a_c α < m + f → m ≤ a_c α → v = nI (smA α a m) → wM_total_15 (nI n) post f μ a v (nI m) := by
      intro f
      induction f with
      | zero => intro m v x1 x2; omega
      | succ f ih =>
        intro m v x1 x2 x3
        show wM_total_15_s (nI n) post (wM_total_15 (nI n) post f) μ a v (nI m)
        unfold wM_total_15_s
        rw [hm.ch, s_le (by omega) (by omega), s_1, s_cl (show m < 100000 by omega)]
        refine ⟨fun z => ?_, fun z => ?_⟩
        · have : m = a_c α := by omega
          subst this
          rw [x3]; exact hp
        · have hmc : m < a_c α := by omega
          refine M_stateOf _ hm w hmc ?_
          rw [hm.sz hmc]
          exact ⟨fun z => ih (m + 1) _ (by omega) (by omega) (smA_f x3 z), fun z => ⟨s_in (by omega) (by omega), ih (m + 1) _ (by omega) (by omega) (smA_t x3 z)⟩⟩
    exact ⟨a_c α + 1, key _ 0 0 (by omega) (by omega) rfl⟩
  refine ⟨a_F α (a_c α) + 1, ?_⟩
  refine unit_loop w (fun f v b => wX_total_15 n (nI n) (fun r σ1 => wM_total (nI n) μ a (fun r1 μ1 => r = r1 ∧ Rel n (k + 1) σ1 μ1)) f σ a v (nI b)) (fun m v => v = nI (smA α a m)) (fun f v hI => ?_) (fun f v b hb hne hrec => ?_) (fun f v m hmc hI hrec => ?_) 0 rfl
  · show wX_total_15_s n (nI n) _ (wX_total_15 n (nI n) _ f) σ a v _
    refine ⟨fun _ => ?_, fun z => absurd (by rw [hx.2.1]; exact (s_le (by omega) (by omega)).mpr (Nat.le_refl _)) z⟩
    rw [hI]
    exact mpart _ ⟨rfl, rr⟩
  · show wX_total_15_s n (nI n) _ (wX_total_15 n (nI n) _ f) σ a v _
    unfold wX_total_15_s
    rw [hx.2.1, s_le (by omega) (by omega), s_cl (by omega), s_1, hx.1.2 b (by omega) hne]
    exact ⟨fun z => absurd z (by omega), fun _ => ⟨s_in (by omega) (by omega), fun _ => hrec, fun z => absurd (show a < 0 by rw [← z]; decide) q⟩⟩
  · have l := g.lt m (a_c α) hmc (Nat.le_refl _)
    show wX_total_15_s n (nI n) _ (wX_total_15 n (nI n) _ f) σ a v _
    unfold wX_total_15_s
    rw [hx.2.1, s_le (by omega) (by omega), s_cl (by omega), s_1, hx.1.t hmc, hx.1.z hmc]
    exact ⟨fun z => absurd z (by omega), fun _ => ⟨s_in (by omega) (by omega), fun z => hrec _ (smA_f hI z), fun z => ⟨s_in (by omega) (by omega), hrec _ (smA_t hI z)⟩⟩⟩
