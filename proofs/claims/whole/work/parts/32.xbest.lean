theorem X_isStored {n : Nat} (lim : Int32) {σ : XS} {p : Nat} (hp : p < n) (hn : n < 100000) {post : Int32 → XS → Prop} (h1 : (x_t σ p = 1 ∨ x_t σ p = 2) → post 1 σ) (h2 : ¬ (x_t σ p = 1 ∨ x_t σ p = 2) → post 0 σ) : wX_isStored n lim σ (nI p) post := by
  have i0 : vp_in (nI p) n := s_in hp hn
  unfold wX_isStored
  rw [s_cl (by omega)]
  exact ⟨i0, fun q => h1 (Or.inl q), fun q => ⟨i0, fun q2 => h2 (fun z => z.elim q q2), fun q2 => h1 (Or.inr q2)⟩⟩
theorem X_isBetter {n : Nat} (lim : Int32) {σ : XS} {p q S1 S2 : Nat} (hp : p < n) (hq : q < n) (hn : n < 100000) (z1 : x_z σ p = nI S1) (z2 : x_z σ q = nI S2) (l1 : S1 < 100000) (l2 : S2 < 100000) {post : Int32 → XS → Prop} (h1 : (S1 < S2 ∨ (S1 = S2 ∧ x_r σ q < x_r σ p)) → post 1 σ) (h2 : (S2 < S1 ∨ (S2 = S1 ∧ x_r σ p ≤ x_r σ q)) → post 0 σ) : wX_isBetter n lim σ (nI p) (nI q) post := by
  have i0 : vp_in (nI p) n := s_in hp hn
  have i1 : vp_in (nI q) n := s_in hq hn
  unfold wX_isBetter
  rw [s_cl (show p < 100000 by omega), s_cl (show q < 100000 by omega), z1, z2, s_eq l1 l2, s_le l2 l1]
  refine ⟨i0, i1, fun e => ⟨i0, i1, fun q => h2 (Or.inr ⟨e.symm, q⟩), fun q => h1 (Or.inr ⟨e, Int32.not_le.mp q⟩)⟩, fun e => ⟨i0, i1, fun q => h2 (Or.inl (by omega)), fun q => h1 (Or.inl (by omega))⟩⟩
def XBI (α : AS) (s m : Nat) (v : Int32) : Prop := (v = -1 ∧ ∀ i, i < m → ¬ cand α s 1000 i) ∨ ∃ b, v = nI (a_F α b) ∧ BstU α s 1000 m b
theorem X_best {n : Nat} {α : AS} (lim : Int32) {σ : XS} (h : XR n α σ) (w : WF n α) {s : Nat} (hs : s < 100000) {post : Int32 → XS → Prop} (h1 : ∀ b, BstU α s 1000 (a_c α) b → post (nI (a_F α b)) σ) (h2 : NC α s 1000 → post (-1) σ) : wX_bestStored n lim σ (nI s) post := by
  have g := w.ge
  have hc := g.c
  have hE := g.2.2
  have hEn := w.2.1
  have hn5 := w.2.2.1
  have hX := h.1
  have key : ∀ f a m v, (∀ j, j < m → a_F α j < a) → m ≤ a_c α → (m < a_c α → a ≤ a_F α m) → a ≤ a_F α (a_c α) → a_F α (a_c α) < a + f → XBI α s m v → wX_bestStored_4 n lim post f σ (nI s) v (nI a) := by
    intro f
    induction f with
    | zero => intro a m v x1 x2 x3 x4 x5; omega
    | succ f ih =>
      intro a m v x1 x2 x3 x4 x5 hI
      show wX_bestStored_4_s n lim post (wX_bestStored_4 n lim post f) σ (nI s) v (nI a)
      unfold wX_bestStored_4_s
      rw [h.2.1, s_le (by omega) (by omega), s_cl (show a < 100000 by omega), s_1]
      refine ⟨fun q => ?_, fun q => ?_⟩
      · have em : m = a_c α := by
          rcases Nat.lt_or_ge m (a_c α) with y | y
          · have y1 := x3 y
            have y2 := g.lt m (a_c α) y (Nat.le_refl _)
            omega
          · omega
        subst em
        rcases hI with hI | ⟨b, e, hb⟩
        · rw [hI.1]; exact h2 hI.2
        · rw [e]; exact h1 b hb
      · have ha : a < n := by omega
        have same : (∀ j, j < a_c α → a_F α j ≠ a) → wX_bestStored_4 n lim post f σ (nI s) v (nI (a + 1)) := by
          intro hne
          refine ih (a + 1) m v (fun j hj => by have := x1 j hj; omega) x2 (fun y => ?_) (by omega) (by omega) hI
          have := x3 y
          have := hne m y
          omega
        have nxt : m < a_c α → a = a_F α m → ∀ v2, XBI α s (m + 1) v2 → wX_bestStored_4 n lim post f σ (nI s) v2 (nI (a + 1)) := by
          intro y e v2 hI2
          have y2 := g.2.1 m y
          refine ih (a + 1) (m + 1) v2 (fun j hj => ?_) y (fun y3 => by omega) (by omega) (by omega) hI2
          rcases (show j < m ∨ j = m by omega) with z | z
          · have := x1 j z; omega
          · subst z; omega
        by_cases st : m < a_c α ∧ a = a_F α m
        · obtain ⟨hm, ea⟩ := st
          subst ea
          have hSm := g.sz hm
          have eT : x_t σ (a_F α m) = a_T α m := hX.t hm
          have eZ : x_z σ (a_F α m) = nI (a_S α m) := hX.z hm
          have no : ¬ cand α s 1000 m → wX_bestStored_4 n lim post f σ (nI s) v (nI (a_F α m + 1)) := by
            intro hnc
            refine nxt hm rfl v ?_
            have ex : ∀ {i : Nat}, i < m + 1 → cand α s 1000 i → i < m := fun {i} y1 y2 => by
              rcases (show i < m ∨ i = m by omega) with z | z
              · exact z
              · subst z; exact absurd y2 hnc
            rcases hI with hI | ⟨b, e, hb⟩
            · exact Or.inl ⟨hI.1, fun i hi hcd => hI.2 i (ex hi hcd) hcd⟩
            · exact Or.inr ⟨b, e, by have := hb.1; omega, hb.2.1, fun i hi hcd => hb.2.2 i (ex hi hcd) hcd⟩
          refine X_isStored lim ha (by omega) (fun hst => ?_) (fun hst => ?_)
          · rw [eT] at hst
            refine ⟨fun z => absurd z (by decide), fun _ => ⟨s_in ha (by omega), ?_⟩⟩
            rw [eZ, s_lt (by omega) hs]
            refine ⟨fun z => no (fun y => by have := y.2.1; omega), fun z => ?_⟩
            have cm : cand α s 1000 m := ⟨hst, by omega, by omega⟩
            rcases hI with hI | ⟨b, e, hb⟩
            · rw [hI.1]
              refine ⟨fun _ => nxt hm rfl _ (Or.inr ⟨m, rfl, ?_⟩), fun y => absurd rfl y⟩
              rcases BI.new hI.2 cm with y | ⟨b, y1, y2⟩
              · exact absurd y.1 (s_m1 (by omega))
              · have l1 := y2.1
                have := (s_eq (by omega) (by omega)).mp y1
                subst this; exact y2
            · have hb1 := hb.1
              have hbc : b < a_c α := by omega
              have lb := g.lt b m hb1 (by omega)
              have hSb := g.sz hbc
              rw [e]
              refine ⟨fun y => absurd y (s_m1 (by omega)), fun _ => ?_⟩
              refine X_isBetter lim ha (by omega) (by omega) eZ (hX.z hbc) (by omega) (by omega) (fun y => ⟨fun z => absurd z (by decide), fun _ => nxt hm rfl _ (Or.inr ⟨m, rfl, ?_⟩)⟩) (fun y => ⟨fun _ => nxt hm rfl _ (Or.inr ⟨b, rfl, ?_⟩), fun z => absurd rfl z⟩)
              · rw [hX.r hm hst, hX.r hbc hb.2.1.1] at y
                rcases BI.rep hb cm y with y | ⟨b2, y1, y2⟩
                · exact absurd y.1 (s_m1 (by omega))
                · have l1 := y2.1
                  have := (s_eq (by omega) (by omega)).mp y1
                  subst this; exact y2
              · rw [hX.r hm hst, hX.r hbc hb.2.1.1] at y
                have bb : bet α b m := by
                  rcases y with y | y
                  · exact Or.inl y
                  · refine Or.inr ⟨y.1, ?_⟩
                    rcases Int32.lt_or_eq_of_le y.2 with z | z
                    · exact Or.inl z
                    · exact Or.inr ⟨z, by omega⟩
                rcases BI.keep hb bb with y | ⟨b2, y1, y2⟩
                · exact absurd y.1 (s_m1 (by omega))
                · have l1 := y2.1
                  have := (s_eq (by omega) (by omega)).mp y1
                  subst this; exact y2
          · rw [eT] at hst
            exact ⟨fun _ => no (fun y => hst y.1), fun z => absurd rfl z⟩
        · have hne : ∀ j, j < a_c α → a_F α j ≠ a := by
            intro j hj e
            rcases Nat.lt_trichotomy j m with y | y | y
            · have := x1 j y; omega
            · subst y; exact st ⟨hj, e.symm⟩
            · have y1 := x3 (by omega)
              have y2 := g.lt m j y (by omega)
              omega
          have eT : x_t σ a = -1 := hX.2 a ha hne
          refine X_isStored lim ha (by omega) (fun hst => ?_) (fun hst => ⟨fun _ => same hne, fun z => absurd rfl z⟩)
          rw [eT] at hst
          exact absurd hst (by decide)
  refine ⟨a_F α (a_c α) + 1, ?_⟩
  exact key _ 0 0 (-1) (fun j hj => absurd hj (by omega)) (by omega) (fun _ => by omega) (by omega) (by omega) (Or.inl ⟨rfl, fun i hi => absurd hi (by omega)⟩)
