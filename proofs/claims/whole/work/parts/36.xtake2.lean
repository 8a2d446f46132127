theorem X_vic {n : Nat} {α : AS} (lim : Int32) {σ : XS} (h : XR n α σ) (w : WF n α) {post : Int32 → XS → Prop} (h0 : a_V α = -1 → post 0 σ) (h1 : ∀ j, j < a_c α → a_V α = nI (a_F α j) → a_T α j = 3 → post (nI (a_S α j)) σ) : wX_sizeAt n lim σ (x_vi σ) post := by
  have g := w.ge
  have hn5 := w.2.2.1
  have hEn := w.2.1
  rw [h.2.2.1]
  rcases w.2.2.2.2.2 with e | ⟨j, hj, e, t⟩
  · rw [e]; exact X_sizeAtM lim (h0 e)
  · have l := g.lt j (a_c α) hj (Nat.le_refl _)
    rw [e]
    refine X_sizeAtN lim (by omega) (by omega) ?_
    rw [h.1.z hj]
    exact h1 j hj e t
theorem X_topz {n : Nat} {α : AS} (lim : Int32) {σ : XS} (h : XR n α σ) (w : WF n α) {post : Int32 → XS → Prop} (h0 : noTop α → post 0 σ) (h1 : ∀ t, t + 1 = a_c α → a_T α t = 4 → post (nI (a_S α t)) σ) : wX_sizeAt n lim σ (x_tp σ) post := by
  have g := w.ge
  have hn5 := w.2.2.1
  have hEn := w.2.1
  rcases Nat.eq_zero_or_pos (a_c α) with z | z
  · rw [h.2.2.2.2.2.1 (Or.inl z)]; exact X_sizeAtM lim (h0 (Or.inl z))
  · by_cases t0 : a_T α (a_c α - 1) = 0
    · have hno : noTop α := Or.inr ⟨a_c α - 1, by omega, t0⟩
      rw [h.2.2.2.2.2.1 hno]; exact X_sizeAtM lim (h0 hno)
    · have l := g.lt (a_c α - 1) (a_c α) (by omega) (Nat.le_refl _)
      rw [h.2.2.2.2.1 (a_c α - 1) (by omega) t0]
      refine X_sizeAtN lim (by omega) (by omega) ?_
      rw [h.1.z (by omega)]
      exact h1 (a_c α - 1) (by omega) (w.top4 (by omega) t0)
/-- cut of the victim -/
theorem X_cutV {n : Nat} {α : AS} (lim : Int32) {σ : XS} (h : XR n α σ) (w : WF n α) {j s : Nat} (hj : j < a_c α) (t : a_T α j = 3) (h2 : 2 ≤ s) (hs : s ≤ a_S α j) {post : Int32 → XS → Prop} (hp : ∀ σ', XR n (cutV α j s) σ' → post (nI (a_F α j)) σ') : wX_cut n lim σ (x_vi σ) (nI s) 3 post := by
  have g := w.ge
  have hn5 := w.2.2.1
  have hEn := w.2.1
  have l := g.lt j (a_c α) hj (Nat.le_refl _)
  have e := (w.v1 hj t).1
  rw [h.2.2.1, e]
  refine X_cut lim 3 (h.1.z hj) hs (by omega) (by omega) (by omega) (by decide) (fun q => hp _ ?_) (fun q => hp _ ?_)
  · unfold cutV; rw [if_pos q]
    exact h.use g hj (by rw [e, if_pos rfl])
  · unfold cutV; rw [if_neg (by omega)]
    exact XR.cut3 h g hj h2 q (w.v1 hj t).2
theorem X_takeSmall {n : Nat} {α : AS} (lim : Int32) {σ : XS} (h : XR n α σ) (w : WF n α) {s : Nat} (hs2 : 2 ≤ s) (hs : s < 16) {post : Int32 → XS → Prop} (hp : ∀ k β σ', TS α s k β → WF n β → XR n β σ' → k < a_c β → a_F β k = a_F α k → post (nI (a_F α k)) σ') (hn : NoSt α s → post (-1) σ) : wX_takeSmall n lim σ (nI s) post := by
  have g := w.ge
  have hc := g.c
  have hn5 := w.2.2.1
  have hEn := w.2.1
  have vV : ∀ j, j < a_c α → a_T α j = 3 → s ≤ a_S α j → NC α s (hi1 s) → wX_cut n lim σ (x_vi σ) (nI s) 3 (fun r60 σ60 => post r60 σ60) := by
    intro j hj t hsj hnc
    refine X_cutV lim h w hj t hs2 hsj (fun σ' hx => hp j _ σ' (Or.inr (Or.inl ⟨hnc, hj, t, hsj, rfl⟩)) (w.kV hj t hs2) hx ?_ ?_)
    · unfold cutV; split
      · exact hj
      · show j < a_c α + 1; omega
    · unfold cutV; split
      · rfl
      · exact a_ins_lo (Nat.le_refl _)
  unfold wX_takeSmall
  refine X_best lim h w (by omega) (fun b hb => ?_) (fun hnc => ?_)
  · have hb1 := hb.1
    have hst := hb.2.1.1
    have hsb := hb.2.1.2.1
    have lb := g.lt b (a_c α) hb1 (Nat.le_refl _)
    have hl := w.st hb1 hst
    have hSb := g.sz hb1
    have ib : vp_in (nI (a_F α b)) n := s_in (by omega) (by omega)
    -- neither bin s nor bin s + 1 has one
    have later : ¬ (a_T α b = 1 ∧ a_S α b < s + 2) → NC α s (hi1 s) := by
      intro hno i hi hcd
      have hh : hi1 s ≤ s + 1 ∧ hi1 s ≤ 15 := by unfold hi1; split <;> omega
      have e1 := hcd.2.2
      have hb2 := hb.2.2 i hi ⟨hcd.1, hcd.2.1, by omega⟩
      have hle : a_S α b ≤ a_S α i := by
        rcases hb2 with z | z
        · omega
        · omega
      refine hno ⟨?_, by omega⟩
      rcases w.to hb1 with t | t | t | t | t
      · exact absurd t hl.2.2.1
      · exact t.1
      · omega
      · exact absurd t.1 hl.2.2.2
      · exact absurd t.2 hl.1
    have s41 : ¬ (a_T α b = 1 ∧ a_S α b < s + 2) → wX_takeSmall_41 n lim σ (nI s) (nI (a_F α b)) post := by
      intro hno
      have hnc := later hno
      have noVic : NV α s → (a_V α = -1 ∨ ∃ j, j < a_c α ∧ a_V α = nI (a_F α j) ∧ a_T α j = 3) → wX_cutForVictim n lim σ (nI (a_F α b)) (nI s) (fun r76 σ76 => post r76 σ76) := by
        intro hnv hvv
        have hb3 : BstU α (s + 1) 1000 (a_c α) b := by
          have up : ∀ i, i < a_c α → cand α s 1000 i → cand α (s + 1) 1000 i := by
            intro i hi hcd
            refine ⟨hcd.1, ?_, hcd.2.2⟩
            rcases (show a_S α i = s ∨ s + 1 ≤ a_S α i by have := hcd.2.1; omega) with z | z
            · exact absurd ⟨hcd.1, by omega, by unfold hi1; split <;> omega⟩ (hnc i hi)
            · exact z
          exact ⟨hb1, up b hb1 hb.2.1, fun i hi hcd => hb.2.2 i hi ⟨hcd.1, by have := hcd.2.1; omega, hcd.2.2⟩⟩
        unfold wX_cutForVictim
        refine X_cut lim 3 (h.1.z hb1) hsb (by omega) (by omega) (by omega) (by decide) (fun q => ?_) (fun q => ?_)
        · have hx := h.use g hb1 (V' := a_V α) (by rw [if_neg hl.2.1])
          have fin := hp b _ _ (Or.inr (Or.inr ⟨hnc, hnv, hb3, Or.inl ⟨q, rfl⟩⟩)) (w.use hb1 hl.2.2.2) hx hb1 rfl
          refine ⟨fun _ => fin, fun _ => ⟨fun _ => fin, fun z => absurd ?_ z⟩⟩
          rw [h.2.2.1, hx.2.2.1]
          rfl
        · have hx := XR.cut3 h g hb1 hs2 q hl.1
          rcases hvv with e | ⟨j, hj, e, t⟩
          · refine ⟨fun _ => hp b _ _ (Or.inr (Or.inr ⟨hnc, hnv, hb3, Or.inr (Or.inl ⟨q, e, rfl⟩)⟩)) (w.kN0 hb1 hst hs2 q e) hx (show b < a_c α + 1 by omega) (a_ins_lo (Nat.le_refl _)), fun z => absurd (h.2.2.1.trans e) z⟩
          · have lj := g.lt j (a_c α) hj (Nat.le_refl _)
            have hSj := g.sz hj
            have hne : j ≠ b := fun z => hl.2.2.2 (by rw [← z]; exact t)
            have hFne : a_F α j ≠ a_F α b ∧ a_F α j ≠ a_F α b + s := by
              rcases Nat.lt_or_ge j b with y | y
              · have := g.lt j b y (by omega); omega
              · have := g.lt b j (by omega) (by omega); omega
            have kN := XR.kN1 h w hb1 hst hs2 q hj t
            have zz := (xcut_t σ (a_F α b) s (a_S α b - s) 3 (by decide)).2
            have vz : x_vi (xLay (xLay0 (xLift σ (a_F α b)) (a_F α b) s) (a_F α b + s) (a_S α b - s) 3) = nI (a_F α b + s) := hx.2.2.1
            generalize xLay (xLay0 (xLift σ (a_F α b)) (a_F α b) s) (a_F α b + s) (a_S α b - s) 3 = σ1 at hx kN zz vz ⊢
            rw [h.2.2.1, e]
            refine ⟨fun z => absurd z (s_m1 (by omega)), fun _ => ⟨fun z => ?_, fun z => ⟨s_in (by omega) (by omega), ?_⟩⟩⟩
            · rw [vz] at z
              exact absurd ((s_eq (by omega) (by omega)).mp z) hFne.2
            · rw [s_cl (show a_F α j < 100000 by omega), zz, ud_ne hFne.2, ud_ne hFne.1, h.1.z hj]
              refine X_lay lim 2 (by omega) (by omega) (by omega) (by decide) ?_
              exact hp b _ _ (Or.inr (Or.inr ⟨hnc, hnv, hb3, Or.inr (Or.inr ⟨q, j, hj, t, rfl⟩)⟩)) (w.kN1 hb1 hst hs2 q hj t) kN (show b < a_c α + 1 by omega) (a_ins_lo (Nat.le_refl _))
      unfold wX_takeSmall_41
      refine X_vic lim h w (fun e => ?_) (fun j hj e t => ?_)
      · refine ⟨fun _ => ⟨fun _ => noVic (fun v hv tv => absurd tv (w.vn e hv)) (Or.inl e), fun z => absurd z (s_m1 (by omega))⟩, fun z => absurd (show (0 : Int32) < nI s from (s_lt (a := 0) (by omega) (by omega)).mpr (by omega)) z⟩
      · have hSj := g.sz hj
        rw [s_lt (by omega) (by omega)]
        refine ⟨fun z => ⟨fun _ => noVic (fun v hv tv => by have := w.vu hv hj tv t; subst this; exact z) (Or.inr ⟨j, hj, e, t⟩), fun z => absurd z (s_m1 (by omega))⟩, fun z => vV j hj t (by omega) hnc⟩
    refine ⟨fun z => absurd z (s_m1 (by omega)), fun _ => ⟨ib, ?_⟩⟩
    rw [s_cl (show a_F α b < 100000 by omega), h.1.t hb1, h.1.z hb1, s_sub hsb]
    refine ⟨fun z => s41 (fun y => z y.1), fun z => ⟨ib, fun z2 => ?_, fun z2 => ?_⟩⟩
    · have z2 := (s_le (a := 2) (by omega) (by omega)).mp z2
      exact s41 (fun y => by omega)
    · have z2 : ¬ 2 ≤ a_S α b - s := fun y => z2 ((s_le (a := 2) (by omega) (by omega)).mpr y)
      have hb2 : BstU α s (hi1 s) (a_c α) b := by
        have hlt : a_S α b < 16 := by
          rcases w.to hb1 with t | t | t | t | t
          · exact absurd t hl.2.2.1
          · exact t.2.1
          · rw [z] at t; exact absurd t.1 (by decide)
          · exact absurd t.1 hl.2.2.2
          · exact absurd t.2 hl.1
        refine ⟨hb1, ⟨hst, hsb, by unfold hi1; split <;> omega⟩, fun i hi hcd => hb.2.2 i hi ⟨hcd.1, hcd.2.1, by have h1 := hcd.2.2; unfold hi1 at h1; split at h1 <;> omega⟩⟩
      refine X_cut lim 2 (h.1.z hb1) hsb (by omega) (by omega) (by omega) (by decide) (fun q => ?_) (fun q => by omega)
      exact hp b _ _ (Or.inl ⟨hb2, rfl⟩) (w.use hb1 hl.2.2.2) (h.use g hb1 (V' := a_V α) (by rw [if_neg hl.2.1])) hb1 rfl
  · have hnc1 : NC α s (hi1 s) := fun i hi hcd => hnc i hi ⟨hcd.1, hcd.2.1, by have h1 := hcd.2.2; unfold hi1 at h1; split at h1 <;> omega⟩
    refine ⟨fun _ => ?_, fun z => absurd rfl z⟩
    unfold wX_takeSmall_41
    refine X_vic lim h w (fun e => ?_) (fun j hj e t => ?_)
    · exact ⟨fun _ => ⟨fun z => absurd rfl z, fun _ => hn ⟨hnc, fun v hv tv => absurd tv (w.vn e hv)⟩⟩, fun z => absurd (show (0 : Int32) < nI s from (s_lt (a := 0) (by omega) (by omega)).mpr (by omega)) z⟩
    · have hSj := g.sz hj
      rw [s_lt (by omega) (by omega)]
      exact ⟨fun z => ⟨fun z2 => absurd rfl z2, fun _ => hn ⟨hnc, fun v hv tv => by have := w.vu hv hj tv t; subst this; exact z⟩⟩, fun z => vV j hj t (by omega) hnc1⟩
