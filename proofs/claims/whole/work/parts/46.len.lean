theorem WX.fin0 {n : Nat} {α : AS} {k : Nat} {h : Bool} (w : WX n α k h) (hT : a_T α k = 0) : WF n (a_sV α (if h = true then -1 else a_V α)) := by
  obtain ⟨g, hE, hn, hk, hto, hadj, hv1, hv2⟩ := w
  refine ⟨g, hE, hn, fun j hj => ?_, fun j hj => ?_, ?_⟩
  · have hj : j < a_c α := hj
    by_cases e : j = k
    · subst e; exact Or.inl hT
    · have t := hto j hj e
      unfold TO at t ⊢
      rcases t with t | t | t | t | t
      · exact Or.inl t
      · exact Or.inr (Or.inl t)
      · exact Or.inr (Or.inr (Or.inl t))
      · refine Or.inr (Or.inr (Or.inr (Or.inl ⟨t.1, ?_, t.2.2⟩)))
        show (if h = true then -1 else a_V α) = nI (a_F α j)
        cases h with
        | true => exact absurd t.1 (hv1 rfl j hj e)
        | false => exact t.2.1
      · exact Or.inr (Or.inr (Or.inr (Or.inr t)))
  · have hj : j + 1 < a_c α := hj
    show a_T α j = 0 ∨ a_T α (j + 1) = 0
    by_cases e : j = k
    · subst e; exact Or.inl hT
    · by_cases e2 : j + 1 = k
      · rw [e2]; exact Or.inr hT
      · exact hadj j hj e e2
  · cases h with
    | true => exact Or.inl rfl
    | false =>
      rcases hv2 rfl with z | ⟨j, hj, -, z1, z2⟩
      · exact Or.inl z
      · exact Or.inr ⟨j, hj, z1, z2⟩
/-- the free chunk behind a used one becomes part of it -/
def aJ (α : AS) (k : Nat) : AS := a_sV (a_join α k) (if decide (a_T α (k + 1) = 3) = true then -1 else a_V α)
theorem WF.joinU {n : Nat} {α : AS} (w : WF n α) {k : Nat} (hk : k + 1 < a_c α) (hT : a_T α k = 0) (hT1 : ¬ a_T α (k + 1) = 0) : WF n (aJ α k) := by
  have w0 : WX n α (k + 1) false → WX n (a_join α k) k (decide (a_T α (k + 1) = 3)) := fun w0 => by
    refine WX.join (k := k) w0 hk (Or.inr rfl) (fun hb j hj x1 x2 x3 => ?_) (fun hb => ?_)
    · exact x2 (w.vu hj hk x3 (of_decide_eq_true hb))
    · have v := of_decide_eq_false hb
      rcases w.2.2.2.2.2 with z | ⟨j, hj, z1, z2⟩
      · exact Or.inl z
      · exact Or.inr ⟨j, hj, fun e => by rw [e, hT] at z2; exact absurd z2 (by decide), fun e => v (by rw [← e]; exact z2), z1, z2⟩
  unfold aJ
  have wj : WX n (a_join α k) k (decide (a_T α (k + 1) = 3)) := by
    by_cases t3 : a_T α (k + 1) = 3
    · refine WX.join (k := k) (m := k + 1) (h := true) ⟨w.1, w.2.1, w.2.2.1, hk, fun j hj _ => w.to hj, fun j hj _ _ => w.2.2.2.2.1 j hj, fun _ j hj e t => e (w.vu hj hk t t3), fun z => absurd z (by decide)⟩ hk (Or.inr rfl) (fun hb j hj x1 x2 x3 => ?_) (fun hb => ?_)
      · exact x2 (w.vu hj hk x3 t3)
      · exact absurd t3 (of_decide_eq_false hb)
    · refine w0 ⟨w.1, w.2.1, w.2.2.1, hk, fun j hj _ => w.to hj, fun j hj _ _ => w.2.2.2.2.1 j hj, fun z => absurd z (by decide), fun _ => ?_⟩
      rcases w.2.2.2.2.2 with z | ⟨j, hj, z1, z2⟩
      · exact Or.inl z
      · exact Or.inr ⟨j, hj, fun e => t3 (by rw [← e]; exact z2), z1, z2⟩
  exact wj.fin0 (by rw [show a_T (a_join α k) k = a_T α k from a_del_lo (Nat.le_refl _)]; exact hT)
theorem aJ_facts (α : AS) (k : Nat) : a_c (aJ α k) = a_c α - 1 ∧ a_F (aJ α k) k = a_F α k ∧ a_S (aJ α k) k = a_S α k + a_S α (k + 1) ∧ a_T (aJ α k) k = a_T α k := ⟨rfl, a_del_lo (Nat.le_refl _), up_at, a_del_lo (Nat.le_refl _)⟩
theorem XR.joinU {n : Nat} {α : AS} {σ : XS} (h : XR n α σ) (w : WF n α) {k : Nat} (hk : k + 1 < a_c α) (hT1 : ¬ a_T α (k + 1) = 0) : XR n (aJ α k) (x_sz (xLift σ (a_F α (k + 1))) (upd (x_z (xLift σ (a_F α (k + 1)))) (a_F α k) (nI (a_S α k + a_S α (k + 1))))) := by
  have g := w.ge
  obtain ⟨u, z, t, r, la, en, vi, tp⟩ := σ
  have l := g.lt k (k + 1) (by omega) (by omega)
  have lk := g.le (show k + 1 ≤ a_c α by omega)
  have eE : a_del (a_F α) k (a_c α - 1) = a_F α (a_c α) := by rw [a_del_hi (by omega), show a_c α - 1 + 1 = a_c α by omega]
  have tpF : ∀ q, q + 1 = a_c α → q ≠ k + 1 → ¬ nI (a_F α (k + 1)) = nI (a_F α q) := fun q hq hne e => by
    have l2 := g.le (show q ≤ a_c α by omega)
    exact hne (g.inj (show k + 1 ≤ a_c α by omega) (show q ≤ a_c α by omega) ((s_eq (by omega) (by omega)).mp e)).symm
  refine ⟨?_, ?_, ?_, h.2.2.2.1, fun q hq hT => ?_, fun hno => ?_, fun a ha => ?_⟩
  · refine XC.join (k := k) (t' := upd t (a_F α (k + 1)) (-1)) (z' := upd (upd z (a_F α (k + 1)) 0) (a_F α k) (nI (a_S α k + a_S α (k + 1)))) (r' := r) h.1 g hk ud_at ud_at (fun a ha => ud_ne ha) (fun a h1 h2 => ?_) (fun _ _ => rfl)
    rw [ud_ne h1, ud_ne h2]
    rfl
  · show en = nI (a_del (a_F α) k (a_c α - 1))
    rw [eE]; exact h.2.1
  · show (if nI (a_F α (k + 1)) = vi then -1 else vi) = if decide (a_T α (k + 1) = 3) = true then -1 else a_V α
    rw [show vi = a_V α from h.2.2.1]
    by_cases t3 : a_T α (k + 1) = 3
    · rw [if_pos (w.v1 hk t3).1.symm, if_pos (decide_eq_true t3)]
    · rw [if_neg (fun e => t3 (w.v3 hk e.symm)), if_neg (fun e => t3 (of_decide_eq_true e))]
  · have hq : q + 1 = a_c α - 1 := hq
    have hT : ¬ a_del (a_T α) k q = 0 := hT
    show (if nI (a_F α (k + 1)) = tp then -1 else tp) = nI (a_del (a_F α) k q)
    by_cases e : q = k
    · subst e
      rw [a_del_lo (Nat.le_refl _)] at hT
      rcases w.2.2.2.2.1 q (by omega) with y | y
      · exact absurd y hT
      · exact absurd y hT1
    · rw [a_del_hi (by omega)] at hT ⊢
      have et := h.2.2.2.2.1 (q + 1) (by omega) hT
      rw [show tp = _ from et, if_neg (tpF (q + 1) (by omega) (by omega))]
  · show (if nI (a_F α (k + 1)) = tp then -1 else tp) = -1
    by_cases e : k + 2 = a_c α
    · rw [if_pos (show nI (a_F α (k + 1)) = tp from (h.2.2.2.2.1 (k + 1) (by omega) hT1).symm)]
    · have et : tp = -1 := by
        refine h.2.2.2.2.2.1 ?_
        rcases hno with y | ⟨q, hq, y⟩
        · have y : a_c α - 1 = 0 := y
          omega
        · have hq : q + 1 = a_c α - 1 := hq
          have y : a_del (a_T α) k q = 0 := y
          rw [a_del_hi (by omega)] at y
          exact Or.inr ⟨q + 1, by omega, y⟩
      rw [et]
      split <;> rfl
  · have ha : a < a_del (a_F α) k (a_c α - 1) := ha
    rw [eE] at ha
    exact h.2.2.2.2.2.2 a ha
/-- the same out of the joined state -/
theorem aLen_eq (α : AS) (k s : Nat) : aLen α k s =
    if a_S (aJ α k) k < s + 2 then a_sT (aJ α k) k 0
    else if a_T α (k + 1) = 3 then a_sV (a_part (a_sT (aJ α k) k 0) k s 3) (nI (a_F (aJ α k) k + s))
    else if a_T α (k + 1) = 4 then a_part (a_sT (aJ α k) k 0) k s 4
    else a_stor2 (a_part (a_sT (aJ α k) k 0) k s 5) (k + 1) (a_code (a_S (aJ α k) k - s)) := by
  obtain ⟨-, e2, e3, -⟩ := aJ_facts α k
  rw [e2, e3]
  unfold aLen aJ
  by_cases t3 : a_T α (k + 1) = 3
  · rw [if_pos t3, if_pos t3, if_pos t3, if_pos (decide_eq_true t3)]
    rfl
  · rw [if_neg t3, if_neg t3, if_neg t3, if_neg (fun e => t3 (of_decide_eq_true e))]
    rfl
theorem WF.len {n : Nat} {α : AS} (w : WF n α) {k s : Nat} (hk : k + 1 < a_c α) (hT : a_T α k = 0) (hT1 : ¬ a_T α (k + 1) = 0) (h2 : 2 ≤ s) : WF n (aLen α k s) := by
  have wj := w.joinU hk hT hT1
  obtain ⟨e1, e2, e3, e4⟩ := aJ_facts α k
  have hkj : k < a_c (aJ α k) := by rw [e1]; omega
  have hTj : a_T (aJ α k) k = 0 := by rw [e4]; exact hT
  have ej : ∀ j, k < j → a_T (aJ α k) j = a_T α (j + 1) := fun j hj => a_del_hi hj
  have nx : k + 1 < a_c (aJ α k) → a_T (aJ α k) (k + 1) = 0 := fun z => by
    rw [ej _ (by omega)]
    rw [e1] at z
    exact w.nx hT1 (by omega)
  have vic : ∀ j, j < a_c (aJ α k) → j ≠ k → a_T (aJ α k) j = 3 → a_V (aJ α k) = nI (a_F (aJ α k) j) := fun j hj _ t => (wj.v1 hj t).1
  have vic2 : a_V (aJ α k) = -1 ∨ ∃ j, j < a_c (aJ α k) ∧ j ≠ k ∧ a_V (aJ α k) = nI (a_F (aJ α k) j) ∧ a_T (aJ α k) j = 3 := by
    rcases wj.2.2.2.2.2 with z | ⟨j, hj, z1, z2⟩
    · exact Or.inl z
    · exact Or.inr ⟨j, hj, fun e => by rw [e, hTj] at z2; exact absurd z2 (by decide), z1, z2⟩
  rw [aLen_eq]
  by_cases q : a_S (aJ α k) k < s + 2
  · rw [if_pos q]
    rw [a_sT_same _ hTj]
    exact wj
  · rw [if_neg q]
    by_cases t3 : a_T α (k + 1) = 3
    · rw [if_pos t3]
      have eV : a_V (aJ α k) = -1 := by
        show (if decide (a_T α (k + 1) = 3) = true then -1 else a_V α) = -1
        rw [if_pos (decide_eq_true t3)]
      have lk := (w.v1 hk t3).2
      exact wj.part hkj h2 (by omega) (v := 3) (Or.inr nx) rfl (Or.inr <| Or.inr ⟨by rw [e1]; omega, Or.inr (Or.inr ⟨rfl, rfl⟩)⟩) (fun j hj _ t => absurd t (wj.vn eV hj)) (Or.inr (Or.inl ⟨rfl, rfl⟩))
    · rw [if_neg t3]
      by_cases t4 : a_T α (k + 1) = 4
      · rw [if_pos t4]
        have lk := (w.t4 hk t4).1
        exact wj.part hkj h2 (by omega) (v := 4) (Or.inr nx) rfl (Or.inr <| Or.inl ⟨rfl, by rw [e1]; omega⟩) vic (vic2.elim Or.inl (fun z => Or.inr (Or.inr z)))
      · rw [if_neg t4, a_partS_eq]
        have lk : k + 2 ≠ a_c α := fun e => t4 (w.top4 (show k + 1 + 1 = a_c α by omega) hT1)
        exact wj.part hkj h2 (by omega) (v := a_code (a_S (aJ α k) k - s)) (Or.inr nx) rfl (Or.inr <| Or.inr ⟨by rw [e1]; omega, (code_or _).elim Or.inl (fun z => Or.inr (Or.inl z))⟩) vic (vic2.elim Or.inl (fun z => Or.inr (Or.inr z)))
theorem X_len64 {n : Nat} {α : AS} (lim : Int32) {σ : XS} (h : XR n α σ) (w : WF n α) {k s : Nat} (hk : k < a_c α) (hT : a_T α k = 0) (h2 : 2 ≤ s) (hs9 : s < 1000) (hlt : a_S α k < s) {post : Int32 → XS → Prop} (hp : k + 1 < a_c α → ¬ a_T α (k + 1) = 0 → s ≤ a_S α k + a_S α (k + 1) → ∀ σ', XR n (aLen α k s) σ' → post 1 σ') (hf : (a_c α ≤ k + 1 ∨ a_T α (k + 1) = 0 ∨ a_S α k + a_S α (k + 1) < s) → post 0 σ) : wX_lengthen_64 n lim σ (nI (a_F α k)) (nI s) (nI (a_F α (k + 1))) (nI (s - a_S α k)) post := by
  have g := w.ge
  have hE := w.2.1
  have hn := w.2.2.1
  have hE5 := g.2.2
  have l := g.lt k (a_c α) hk (Nat.le_refl _)
  have lk1 := g.le (show k + 1 ≤ a_c α by omega)
  have hS := g.sz hk
  unfold wX_lengthen_64
  refine X_isFreeN lim (by omega) h.2.1 hE (by omega) (fun x1 x2 x3 => ⟨fun y => absurd y (by decide), fun _ => ?_⟩) (fun x => ⟨fun _ => hf ?_, fun y => absurd rfl y⟩)
  · have hk1 : k + 1 < a_c α := by
      rcases Nat.lt_or_ge (k + 1) (a_c α) with y | y
      · exact y
      · have : k + 1 = a_c α := by omega
        rw [this] at x1; omega
    rw [h.1.t hk1] at x3
    have l1 := g.lt (k + 1) (a_c α) hk1 (Nat.le_refl _)
    have hS1 := g.sz hk1
    have i1 : vp_in (nI (a_F α (k + 1))) n := s_in (by omega) (by omega)
    have i0 : vp_in (nI (a_F α k)) n := s_in (by omega) (by omega)
    rw [s_cl (show a_F α (k + 1) < 100000 by omega), s_cl (show a_F α k < 100000 by omega), h.1.z hk1, h.1.z hk, h.1.t hk1, s_le (by omega) (by omega)]
    refine ⟨i1, fun q => ⟨i1, i0, ?_⟩, fun q => hf (Or.inr (Or.inr (by omega)))⟩
    refine X_lift lim (by omega) (by omega) ⟨i0, ?_⟩
    rw [h.1.z hk1, nI_add]
    have hj := h.joinU w hk1 x3
    obtain ⟨e1, e2, e3, e4⟩ := aJ_facts α k
    have wj := w.joinU hk1 hT x3
    have gj := wj.ge
    have hkj : k < a_c (aJ α k) := by rw [e1]; omega
    have hTj : a_T (aJ α k) k = 0 := by rw [e4]; exact hT
    have nV := wj.nV hkj hTj
    generalize x_sz (xLift σ (a_F α (k + 1))) (upd (x_z (xLift σ (a_F α (k + 1)))) (a_F α k) (nI (a_S α k + a_S α (k + 1)))) = σ2 at hj ⊢
    have fin := hp hk1 x3 (by omega)
    rw [aLen_eq] at fin
    have hz := hj.1.z hkj
    rw [e2] at hz
    have v5 : a_T α (k + 1) = 0 ∨ a_T α (k + 1) = 1 ∨ a_T α (k + 1) = 2 ∨ a_T α (k + 1) = 3 ∨ a_T α (k + 1) = 4 := by
      rcases w.to hk1 with t | t | t | t | t
      · exact Or.inl t
      · exact Or.inr (Or.inl t.1)
      · exact Or.inr (Or.inr (Or.inl t.1))
      · exact Or.inr (Or.inr (Or.inr (Or.inl t.1)))
      · exact Or.inr (Or.inr (Or.inr (Or.inr t.1)))
    refine X_cut lim (a_T α (k + 1)) hz (by rw [e3]; omega) (by rw [e3]; omega) (by rw [e3]; have := (g.2.1 k hk).1; omega) (by omega) v5 (fun y => ?_) (fun y => ?_)
    · rw [if_pos y] at fin
      have u := hj.use gj hkj (V' := a_V (aJ α k)) (by rw [if_neg nV])
      rw [e2] at u
      exact fin _ u
    · rw [if_neg (by omega)] at fin
      by_cases t3 : a_T α (k + 1) = 3
      · rw [if_pos t3] at fin
        rw [t3]
        have lk := (w.v1 hk1 t3).2
        have u := XR.cut3 hj gj hkj h2 y (by rw [e1]; omega)
        have r := fin _ u
        rw [e2] at r
        exact r
      · rw [if_neg t3] at fin
        by_cases t4 : a_T α (k + 1) = 4
        · rw [if_pos t4] at fin
          rw [t4]
          have lk := (w.t4 hk1 t4).1
          have u := XR.cut4 hj gj hkj h2 y (by rw [e1]; omega) nV
          have r := fin _ u
          rw [e2] at r
          exact r
        · rw [if_neg t4] at fin
          have t12 : a_T α (k + 1) = 1 ∨ a_T α (k + 1) = 2 := by
            rcases v5 with t | t | t | t | t
            · exact absurd t x3
            · exact Or.inl t
            · exact Or.inr t
            · exact absurd t t3
            · exact absurd t t4
          have lk : k + 2 ≠ a_c α := fun e => t4 (w.top4 (show k + 1 + 1 = a_c α by omega) x3)
          have u := XR.cutS hj gj hkj h2 y (by rw [e1]; omega) nV t12
          have r := fin _ u
          rw [e2] at r
          exact r
  · rcases Nat.lt_or_ge (k + 1) (a_c α) with y | y
    · have l1 := g.lt (k + 1) (a_c α) y (Nat.le_refl _)
      rcases x with z | z | z
      · omega
      · rw [h.1.t y] at z; exact absurd z (w.to y).ge
      · rw [h.1.t y] at z; exact Or.inr (Or.inl z)
    · exact Or.inl y
theorem X_lengthen {n : Nat} {α : AS} {σ : XS} (h : XR n α σ) (w : WF n α) {k s : Nat} (hk : k < a_c α) (hT : a_T α k = 0) (h2 : 2 ≤ s) (hs9 : s < 1000) (hlt : a_S α k < s) {post : Int32 → XS → Prop} (hp : ∀ β σ', LN n α k s β → XR n β σ' → post 1 σ') (hf : LF n α k s → post 0 σ) : wX_lengthen n (nI n) σ (nI (a_F α k)) (nI s) post := by
  have g := w.ge
  have hE := w.2.1
  have hn := w.2.2.1
  have hE5 := g.2.2
  have l := g.lt k (a_c α) hk (Nat.le_refl _)
  have hF := (g.2.1 k hk).1
  have lk1 := g.le (show k + 1 ≤ a_c α by omega)
  have hS := g.sz hk
  have i0 : vp_in (nI (a_F α k)) n := s_in (by omega) (by omega)
  -- without growing
  have p64 : (k + 2 = a_c α → ¬ a_T α (k + 1) = 0 → s ≤ a_S α k + a_S α (k + 1)) → k + 1 < a_c α → wX_lengthen_64 n (nI n) σ (nI (a_F α k)) (nI s) (nI (a_F α (k + 1))) (nI (s - a_S α k)) post := by
    intro hno hk1
    refine X_len64 _ h w hk hT h2 hs9 hlt (fun _ y1 y2 σ' hx => hp _ σ' (Or.inl ⟨hk1, y1, y2, rfl⟩) hx) (fun y => hf ?_)
    rcases y with y | y | y
    · omega
    · exact Or.inl ⟨hk1, y⟩
    · by_cases z : a_T α (k + 1) = 0
      · exact Or.inl ⟨hk1, z⟩
      · by_cases z2 : k + 2 = a_c α
        · have := hno z2 z; omega
        · exact Or.inr (Or.inl ⟨by omega, z, y⟩)
  have p35 : (k + 1 = a_c α ∨ (k + 2 = a_c α ∧ a_T α (k + 1) = 4)) → wX_lengthen_35 n (nI n) σ (nI (a_F α k)) (nI s) (nI (a_F α (k + 1))) (nI (s - a_S α k)) post := by
    intro hlast
    unfold wX_lengthen_35
    refine X_topz _ h w (fun hno => ?_) (fun t ht h4 => ?_)
    · have hk1 : k + 1 = a_c α := by
        rcases hlast with y | y
        · exact y
        · rcases hno with z | ⟨q, hq, z⟩
          · omega
          · have : q = k + 1 := by omega
            subst this; rw [y.2] at z; exact absurd z (by decide)
      have e0 : nI (s - a_S α k) - 0 = nI (s - a_S α k) := s_sub (b := 0) (by omega)
      have hup : s - a_S α k ≤ up16 (s - a_S α k) := by unfold up16; omega
      rw [e0]
      refine ⟨fun q => absurd ((s_le (b := 0) (by omega) (by omega)).mp q) (by omega), fun _ => ?_⟩
      refine X_grow h w (by omega) (by omega) (fun q t ht t4 σ' hx => ?_) (fun q _ σ' hx => ?_) (fun q => ?_)
      · have : t = k := by omega
        subst this; rw [hT] at t4; exact absurd t4 (by decide)
      · refine ⟨fun _ => ?_, fun z => absurd z (by decide)⟩
        have w1 := w.grow0 hno (m := up16 (s - a_S α k)) (by unfold up16; omega) q
        have eT : a_T (a_grow0 α (up16 (s - a_S α k))) k = 0 := by
          show va_up (a_T α) (a_c α) 4 k = 0
          rw [up_ne (by omega)]; exact hT
        have eS : a_S (a_grow0 α (up16 (s - a_S α k))) k = a_S α k := up_ne (by omega)
        have eF : a_F (a_grow0 α (up16 (s - a_S α k))) k = a_F α k := up_ne (by omega)
        have eF1 : a_F (a_grow0 α (up16 (s - a_S α k))) (k + 1) = a_F α (k + 1) := up_ne (by omega)
        have eS1 : a_S (a_grow0 α (up16 (s - a_S α k))) (k + 1) = up16 (s - a_S α k) := by
          show va_up (a_S α) (a_c α) _ (k + 1) = _
          rw [hk1, up_at]
        have eT1 : a_T (a_grow0 α (up16 (s - a_S α k))) (k + 1) = 4 := by
          show va_up (a_T α) (a_c α) 4 (k + 1) = 4
          rw [hk1, up_at]
        have r := X_len64 (k := k) (nI n) hx w1 (show k < a_c α + 1 by omega) eT h2 hs9 (by rw [eS]; exact hlt) (post := post) (fun _ y1 y2 σ2 hx2 => hp _ σ2 (Or.inr (Or.inr ⟨hk1, q, rfl⟩)) hx2) (fun y => by
          exfalso
          rcases y with y | y | y
          · have y : a_c α + 1 ≤ k + 1 := y
            omega
          · rw [eT1] at y; exact absurd y (by decide)
          · rw [eS, eS1] at y; omega)
        rw [eF, eF1, eS] at r
        exact r
      · exact ⟨fun z => absurd rfl z, fun _ => hf (Or.inr (Or.inr (Or.inr ⟨hk1, q⟩)))⟩
    · have hk2 : k + 2 = a_c α ∧ a_T α (k + 1) = 4 := by
        rcases hlast with y | y
        · have : t = k := by omega
          subst this; rw [hT] at h4; exact absurd h4 (by decide)
        · exact y
      have et : t = k + 1 := by omega
      subst et
      have hSt := g.sz (show k + 1 < a_c α by omega)
      rw [s_sub0 (by omega) (by omega)]
      refine ⟨fun q => p64 (fun _ _ => by omega) (by omega), fun q => ?_⟩
      have hup : s - (a_S α k + a_S α (k + 1)) ≤ up16 (s - (a_S α k + a_S α (k + 1))) := by unfold up16; omega
      rw [s_sub (by omega), show s - a_S α k - a_S α (k + 1) = s - (a_S α k + a_S α (k + 1)) by omega]
      refine X_grow h w (by omega) (by omega) (fun q2 t ht t4 σ' hx => ?_) (fun q2 hno σ' hx => ?_) (fun q2 => ?_)
      · have et : t = k + 1 := by omega
        subst et
        refine ⟨fun _ => ?_, fun z => absurd z (by decide)⟩
        have w1 := w.growT ht h4 q2
        have eS : a_S (a_growT α (k + 1) (up16 (s - (a_S α k + a_S α (k + 1))))) k = a_S α k := up_ne (by omega)
        have eF : a_F (a_growT α (k + 1) (up16 (s - (a_S α k + a_S α (k + 1))))) k = a_F α k := up_ne (by omega)
        have eF1 : a_F (a_growT α (k + 1) (up16 (s - (a_S α k + a_S α (k + 1))))) (k + 1) = a_F α (k + 1) := up_ne (by omega)
        have eS1 : a_S (a_growT α (k + 1) (up16 (s - (a_S α k + a_S α (k + 1))))) (k + 1) = a_S α (k + 1) + up16 (s - (a_S α k + a_S α (k + 1))) := up_at
        have r := X_len64 (k := k) (nI n) hx w1 hk hT h2 hs9 (by rw [eS]; exact hlt) (post := post) (fun _ y1 y2 σ2 hx2 => hp _ σ2 (Or.inr (Or.inl ⟨hk2.1, h4, by omega, q2, rfl⟩)) hx2) (fun y => by
          exfalso
          rcases y with y | y | y
          · have y : a_c α ≤ k + 1 := y
            omega
          · rw [show a_T (a_growT α (k + 1) (up16 (s - (a_S α k + a_S α (k + 1))))) (k + 1) = a_T α (k + 1) from rfl, h4] at y; exact absurd y (by decide)
          · rw [eS, eS1] at y; omega)
        rw [eF, eF1, eS] at r
        exact r
      · rcases hno with z | ⟨q3, hq, z⟩
        · omega
        · have : q3 = k + 1 := by omega
          subst this; rw [h4] at z; exact absurd z (by decide)
      · exact ⟨fun z => absurd rfl z, fun _ => hf (Or.inr (Or.inr (Or.inl ⟨hk2.1, h4, by omega, q2⟩)))⟩
  unfold wX_lengthen
  rw [s_cl (show a_F α k < 100000 by omega), h.1.z hk, nI_add, ← hF, s_sub (show a_S α k ≤ s by omega), h.2.1, s_eq (by omega) (by omega)]
  refine ⟨i0, i0, fun q => ?_, fun q => ⟨fun q2 => ?_, fun q2 => ?_⟩⟩
  · exact p35 (Or.inl (g.inj (by omega) (Nat.le_refl _) q))
  · have hk1 : k + 1 < a_c α := by
      rcases Nat.lt_or_ge (k + 1) (a_c α) with y | y
      · exact y
      · exact absurd (by rw [show k + 1 = a_c α by omega]) q
    exact p64 (fun y y2 => absurd (h.2.2.2.2.1 (k + 1) (by omega) y2).symm q2) hk1
  · have hk1 : k + 1 < a_c α := by
      rcases Nat.lt_or_ge (k + 1) (a_c α) with y | y
      · exact y
      · exact absurd (by rw [show k + 1 = a_c α by omega]) q
    have tt : ¬ (a_T α (k + 1) = 0 ∨ k + 1 + 1 ≠ a_c α) := fun y => h.tpne g hk1 y q2
    have k2 : k + 2 = a_c α := Decidable.byContradiction fun z => tt (Or.inr z)
    exact p35 (Or.inr ⟨k2, w.top4 (show k + 1 + 1 = a_c α by omega) (fun z => tt (Or.inl z))⟩)
theorem M_lengthen {n : Nat} {α : AS} {μ : MS} (h : MR α μ) (w : WF n α) {k s : Nat} (hk : k < a_c α) (hT : a_T α k = 0) (h2 : 2 ≤ s) (hs9 : s < 1000) (hlt : a_S α k < s) {post : Int32 → MS → Prop} (hp : ∀ β μ', LN n α k s β → MR β μ' → post 1 μ') (hf : LF n α k s → post 0 μ) : wM_lengthen (nI n) μ (nI k) (nI s) post := by
  have g := w.ge
  have hc := g.c
  have hn := w.2.2.1
  have hE5 := g.2.2
  have hS := g.sz hk
  have ik : vp_in (nI k) 258 := s_in (by omega) (by omega)
  have p87 : (k + 2 = a_c α → ¬ a_T α (k + 1) = 0 → s ≤ a_S α k + a_S α (k + 1)) → k + 1 < a_c α → wM_lengthen_87 (nI n) μ (nI k) (nI s) post := by
    intro hno hk1
    refine M_len87 _ h w hk h2 hs9 (fun _ y1 y2 μ' hm => hp _ μ' (Or.inl ⟨hk1, y1, y2, rfl⟩) hm) (fun y => hf ?_)
    rcases y with y | y | y
    · omega
    · exact Or.inl ⟨hk1, y⟩
    · by_cases z : a_T α (k + 1) = 0
      · exact Or.inl ⟨hk1, z⟩
      · by_cases z2 : k + 2 = a_c α
        · have := hno z2 z; omega
        · exact Or.inr (Or.inl ⟨by omega, z, y⟩)
  have notlast : ¬ k + 1 = a_c α → ¬ nI k = nI (a_c α) - 1 := fun y e => by
    rw [s_m _ (by omega)] at e
    have := (s_eq (by omega) (by omega)).mp e
    omega
  unfold wM_lengthen
  refine M_top _ h g (fun t ht hTt => ?_) (fun hno => ?_)
  · have h4 := w.top4 ht hTt
    have hkt : k ≠ t := fun e => by rw [e, h4] at hT; exact absurd hT (by decide)
    have hSt := g.sz (show t < a_c α by omega)
    rw [h.ch]
    refine ⟨fun _ => ⟨fun z => absurd rfl z, fun _ => ?_⟩, fun y => absurd y (notlast (by omega))⟩
    rw [s_1, s_eq (by omega) (by omega)]
    refine ⟨fun y => p87 (fun y2 _ => by omega) (by omega), fun y => ?_⟩
    subst y
    refine ⟨fun _ => ⟨ik, s_in (by omega) (by omega), ?_⟩, fun z => absurd rfl z⟩
    unfold wM_lengthen_61
    rw [s_cl (show k < 100000 by omega), s_cl (show k + 1 < 100000 by omega), h.sz hk, h.sz (show k + 1 < a_c α by omega), nI_add, s_le (by omega) (by omega)]
    refine ⟨fun q => p87 (fun _ _ => q) (by omega), fun q => ?_⟩
    have hup : s - (a_S α k + a_S α (k + 1)) ≤ up16 (s - (a_S α k + a_S α (k + 1))) := by unfold up16; omega
    rw [s_sub (by omega)]
    refine M_grow h g hn (by omega) (fun q2 t2 ht2 hT2 μ' hm => ?_) (fun q2 hno μ' hm => ?_) (fun q2 => ?_)
    · have et : t2 = k + 1 := by omega
      subst et
      refine ⟨fun z => absurd z (by decide), fun _ => ?_⟩
      have w1 := w.growT ht h4 q2
      have eS : a_S (a_growT α (k + 1) (up16 (s - (a_S α k + a_S α (k + 1))))) k = a_S α k := up_ne (by omega)
      have eS1 : a_S (a_growT α (k + 1) (up16 (s - (a_S α k + a_S α (k + 1))))) (k + 1) = a_S α (k + 1) + up16 (s - (a_S α k + a_S α (k + 1))) := up_at
      exact M_len87 (k := k) (nI n) hm w1 hk h2 hs9 (fun _ y1 y2 μ2 hm2 => hp _ μ2 (Or.inr (Or.inl ⟨by omega, h4, by omega, q2, rfl⟩)) hm2) (fun y => by
        exfalso
        rcases y with y | y | y
        · have y : a_c α ≤ k + 1 := y
          omega
        · rw [show a_T (a_growT α (k + 1) (up16 (s - (a_S α k + a_S α (k + 1))))) (k + 1) = a_T α (k + 1) from rfl, h4] at y; exact absurd y (by decide)
        · rw [eS, eS1] at y; omega)
    · rcases hno with z | ⟨q3, hq, z⟩
      · omega
      · have : q3 = k + 1 := by omega
        subst this; exact absurd z hTt
    · refine ⟨fun _ => ?_, fun z => absurd rfl z⟩
      exact M_len87 (k := k) (nI n) h w hk h2 hs9 (fun _ y1 y2 μ2 hm2 => by omega) (fun _ => hf (Or.inr (Or.inr (Or.inl ⟨by omega, h4, by omega, q2⟩))))
  · rw [h.ch]
    refine ⟨fun y => ⟨fun z => absurd rfl z, fun _ => ⟨fun _ => ?_, fun z => ?_⟩⟩, fun y => ⟨fun _ => ?_, fun z => absurd z (by decide)⟩⟩
    · have hk1 : k + 1 < a_c α := by
        rcases Nat.lt_or_ge (k + 1) (a_c α) with z | z
        · exact z
        · exact absurd (by rw [s_m _ (by omega)]; congr 1; omega) y
      exact p87 (fun y1 y2 => by
        rcases hno with z | ⟨q3, hq, z⟩
        · omega
        · have : q3 = k + 1 := by omega
          subst this; exact absurd z y2) hk1
    · rw [s_1] at z
      exact absurd z.symm (s_m1 (by omega))
    · have hk1 : k + 1 = a_c α := by
        rw [s_m _ (by omega)] at y
        have := (s_eq (by omega) (by omega)).mp y
        omega
      refine ⟨fun z => absurd z (by decide), fun _ => ⟨ik, ?_⟩⟩
      unfold wM_lengthen_61
      rw [s_cl (show k < 100000 by omega), h.sz hk, s_le (by omega) (by omega)]
      refine ⟨fun q => by omega, fun _ => ?_⟩
      have hup : s - a_S α k ≤ up16 (s - a_S α k) := by unfold up16; omega
      rw [s_sub (by omega)]
      refine M_grow h g hn (by omega) (fun q2 t2 ht2 hT2 μ' hm => ?_) (fun q2 _ μ' hm => ?_) (fun q2 => ?_)
      · have et : t2 = k := by omega
        subst et; exact absurd hT hT2
      · refine ⟨fun z => absurd z (by decide), fun _ => ?_⟩
        have w1 := w.grow0 hno (m := up16 (s - a_S α k)) (by unfold up16; omega) q2
        have eS : a_S (a_grow0 α (up16 (s - a_S α k))) k = a_S α k := up_ne (by omega)
        have eS1 : a_S (a_grow0 α (up16 (s - a_S α k))) (k + 1) = up16 (s - a_S α k) := by
          show va_up (a_S α) (a_c α) _ (k + 1) = _
          rw [hk1, up_at]
        have eT1 : a_T (a_grow0 α (up16 (s - a_S α k))) (k + 1) = 4 := by
          show va_up (a_T α) (a_c α) 4 (k + 1) = 4
          rw [hk1, up_at]
        exact M_len87 (k := k) (nI n) hm w1 (show k < a_c α + 1 by omega) h2 hs9 (fun _ y1 y2 μ2 hm2 => hp _ μ2 (Or.inr (Or.inr ⟨hk1, q2, rfl⟩)) hm2) (fun y => by
          exfalso
          rcases y with y | y | y
          · have y : a_c α + 1 ≤ k + 1 := y
            omega
          · rw [eT1] at y; exact absurd y (by decide)
          · rw [eS, eS1] at y; omega)
      · refine ⟨fun _ => ?_, fun z => absurd rfl z⟩
        exact M_len87 (k := k) (nI n) h w hk h2 hs9 (fun y1 _ _ μ2 hm2 => by omega) (fun _ => hf (Or.inr (Or.inr (Or.inr ⟨hk1, q2⟩))))
theorem LN_wf {n : Nat} {α : AS} (w : WF n α) {k s : Nat} {β : AS} (hk : k < a_c α) (hT : a_T α k = 0) (h2 : 2 ≤ s) (hlt : a_S α k < s) (h : LN n α k s β) : WF n β := by
  rcases h with ⟨x1, x2, x3, rfl⟩ | ⟨x1, x2, x3, x4, rfl⟩ | ⟨x1, x2, rfl⟩
  · exact w.len x1 hT x2 h2
  · have w1 := w.growT (show k + 1 + 1 = a_c α by omega) x2 x4
    exact w1.len (show k + 1 < a_c α by omega) hT (by rw [show a_T (a_growT α (k + 1) (up16 (s - (a_S α k + a_S α (k + 1))))) (k + 1) = a_T α (k + 1) from rfl, x2]; decide) h2
  · have hno : noTop α := Or.inr ⟨k, x1, hT⟩
    have w1 := w.grow0 hno (m := up16 (s - a_S α k)) (by unfold up16; omega) x2
    refine w1.len (show k + 1 < a_c α + 1 by omega) ?_ ?_ h2
    · show va_up (a_T α) (a_c α) 4 k = 0
      rw [up_ne (by omega)]; exact hT
    · show ¬ va_up (a_T α) (a_c α) 4 (k + 1) = 0
      rw [x1, up_at]; decide
