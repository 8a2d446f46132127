theorem X_takeLarge {n : Nat} {α : AS} (lim : Int32) {σ : XS} (h : XR n α σ) (w : WF n α) {s : Nat} (hs2 : 16 ≤ s) (hs : s < 1000) {post : Int32 → XS → Prop} (hp : ∀ k β σ', TL α s k β → WF n β → XR n β σ' → k < a_c β → a_F β k = a_F α k → post (nI (a_F α k)) σ') (hn : NoSt α s → post (-1) σ) : wX_takeLarge n lim σ (nI s) post := by
  have g := w.ge
  have hc := g.c
  have hn5 := w.2.2.1
  have hEn := w.2.1
  have vV : ∀ j, j < a_c α → a_T α j = 3 → s ≤ a_S α j → (∀ b, BstU α s 1000 (a_c α) b → a_S α j ≤ a_S α b) → wX_takeLarge_59 n lim σ (nI s) 1 post := by
    intro j hj t hsj hb
    refine ⟨fun z => absurd z (by decide), fun _ => ?_⟩
    refine X_cutV lim h w hj t (by omega) hsj (fun σ' hx => hp j _ σ' (Or.inr ⟨hj, t, hsj, hb, rfl⟩) (w.kV hj t (by omega)) hx ?_ ?_)
    · unfold cutV; split
      · exact hj
      · show j < a_c α + 1; omega
    · unfold cutV; split
      · rfl
      · exact a_ins_lo (Nat.le_refl _)
  unfold wX_takeLarge
  refine X_best lim h w (by omega) (fun b hb => ?_) (fun hnc => ?_)
  · have hb1 := hb.1
    have hst := hb.2.1.1
    have hsb := hb.2.1.2.1
    have lb := g.lt b (a_c α) hb1 (Nat.le_refl _)
    have hl := w.st hb1 hst
    have hSb := g.sz hb1
    have ib : vp_in (nI (a_F α b)) n := s_in (by omega) (by omega)
    have s51 : (∀ v, v < a_c α → a_T α v = 3 → a_S α v < s ∨ a_S α b < a_S α v) → wX_takeLarge_51 n lim σ (nI s) (nI (a_F α b)) post := by
      intro hv
      unfold wX_takeLarge_51
      refine X_cut lim 2 (h.1.z hb1) hsb (by omega) (by omega) (by omega) (by decide) (fun q => hp b _ _ (Or.inl ⟨hb, hv, rfl⟩) (w.kS hb1 hst (by omega)) ?_ ?_ ?_) (fun q => hp b _ _ (Or.inl ⟨hb, hv, rfl⟩) (w.kS hb1 hst (by omega)) ?_ ?_ ?_)
      · unfold cutS; rw [if_pos q]
        exact h.use g hb1 (V' := a_V α) (by rw [if_neg hl.2.1])
      · unfold cutS; rw [if_pos q]; exact hb1
      · unfold cutS; rw [if_pos q]; rfl
      · unfold cutS; rw [if_neg (by omega)]
        exact XR.cutS h g hb1 (by omega) q hl.1 hl.2.1 (Or.inr rfl)
      · unfold cutS; rw [if_neg (by omega)]; show b < a_c α + 1; omega
      · unfold cutS; rw [if_neg (by omega)]; exact a_ins_lo (Nat.le_refl _)
    refine X_vic lim h w (fun e => ?_) (fun j hj e t => ?_)
    · refine ⟨fun _ => ⟨fun z => absurd z (s_m1 (by omega)), fun _ => ⟨fun _ => s51 (fun v hv tv => absurd tv (w.vn e hv)), fun z => absurd rfl z⟩⟩, fun z => absurd (show (0 : Int32) < nI s from (s_lt (a := 0) (by omega) (by omega)).mpr (by omega)) z⟩
    · have hSj := g.sz hj
      have lj := g.lt j (a_c α) hj (Nat.le_refl _)
      rw [s_lt (by omega) (by omega)]
      refine ⟨fun z => ⟨fun y => absurd y (s_m1 (by omega)), fun _ => ⟨fun _ => s51 (fun v hv tv => by have := w.vu hv hj tv t; subst this; exact Or.inl z), fun y => absurd rfl y⟩⟩, fun z => ⟨fun y => absurd y (s_m1 (by omega)), fun _ => ⟨fun y => absurd y (by decide), fun _ => ⟨ib, ?_⟩⟩⟩⟩
      rw [h.2.2.1, e, s_cl (show a_F α b < 100000 by omega), s_cl (show a_F α j < 100000 by omega), h.1.z hb1, h.1.z hj, s_le (by omega) (by omega)]
      refine ⟨s_in (by omega) (by omega), fun y => ?_, fun y => ?_⟩
      · exact vV j hj t (by omega) (fun b2 hb2 => by have := hb2.uniq hb; subst this; exact y)
      · exact s51 (fun v hv tv => by have := w.vu hv hj tv t; subst this; exact Or.inr (by omega))
  · refine X_vic lim h w (fun e => ?_) (fun j hj e t => ?_)
    · refine ⟨fun _ => ⟨fun _ => ⟨fun _ => hn ⟨hnc, fun v hv tv => absurd tv (w.vn e hv)⟩, fun z => absurd rfl z⟩, fun z => absurd rfl z⟩, fun z => absurd (show (0 : Int32) < nI s from (s_lt (a := 0) (by omega) (by omega)).mpr (by omega)) z⟩
    · have hSj := g.sz hj
      rw [s_lt (by omega) (by omega)]
      exact ⟨fun z => ⟨fun _ => ⟨fun _ => hn ⟨hnc, fun v hv tv => by have := w.vu hv hj tv t; subst this; exact z⟩, fun y => absurd rfl y⟩, fun y => absurd rfl y⟩, fun z => ⟨fun _ => vV j hj t (by omega) (fun b hb => absurd hb.2.1 (hnc b hb.1)), fun y => absurd rfl y⟩⟩
theorem XR.growT {n : Nat} {α : AS} {σ : XS} (h : XR n α σ) (g : GE α) {t m : Nat} (ht : t + 1 = a_c α) (h4 : a_T α t = 4) : XR n (a_growT α t m) (xLay4 (x_sen (x_su σ (x_fl (x_u σ) (a_F α (a_c α)) (a_F α (a_c α) + m) 0)) (nI (a_F α (a_c α) + m))) (a_F α t) (a_S α t + m)) := by
  obtain ⟨u, z, tt, r, la, en, vi, tp⟩ := σ
  have lt := g.lt t (a_c α) (by omega) (Nat.le_refl _)
  refine ⟨⟨fun j hj => ?_, fun a ha hj => ?_⟩, ?_, h.2.2.1, h.2.2.2.1, fun q hq hT => ?_, fun hno => ?_, fun a ha => ?_⟩
  · have hj : j < a_c α := hj
    show upd tt (a_F α t) 4 (va_up (a_F α) (a_c α) (a_F α (a_c α) + m) j) = a_T α j ∧ upd z (a_F α t) (nI (a_S α t + m)) (va_up (a_F α) (a_c α) (a_F α (a_c α) + m) j) = nI (va_up (a_S α) t (a_S α t + m) j) ∧ ((a_T α j = 1 ∨ a_T α j = 2) → r (va_up (a_F α) (a_c α) (a_F α (a_c α) + m) j) = a_C α j)
    rw [up_ne (show j ≠ a_c α by omega)]
    by_cases e : j = t
    · subst e
      rw [ud_at, ud_at, up_at, h4]
      exact ⟨rfl, rfl, fun y => absurd y (by decide)⟩
    · have ne : a_F α j ≠ a_F α t := fun y => e (g.inj (by omega) (by omega) y)
      rw [ud_ne ne, ud_ne ne, up_ne e]
      exact h.1.1 j hj
  · have hj : ∀ j, j < a_c α → va_up (a_F α) (a_c α) (a_F α (a_c α) + m) j ≠ a := hj
    have hj2 : ∀ j, j < a_c α → a_F α j ≠ a := fun j y => by
      have := hj j y
      rw [up_ne (by omega)] at this
      exact this
    show upd tt (a_F α t) 4 a = -1
    rw [ud_ne (fun y => hj2 t (by omega) y.symm)]
    exact h.1.2 a ha hj2
  · show nI (a_F α (a_c α) + m) = nI (va_up (a_F α) (a_c α) (a_F α (a_c α) + m) (a_c α))
    rw [up_at]
  · have hq : q + 1 = a_c α := hq
    have : q = t := by omega
    subst this
    show nI (a_F α q) = nI (va_up (a_F α) (a_c α) (a_F α (a_c α) + m) q)
    rw [up_ne (by omega)]
  · rcases hno with y | ⟨q, hq, y⟩
    · have y : a_c α = 0 := y
      omega
    · have hq : q + 1 = a_c α := hq
      have : q = t := by omega
      subst this
      have y : a_T α q = 0 := y
      rw [h4] at y; exact absurd y (by decide)
  · show x_fl u (a_F α (a_c α)) (a_F α (a_c α) + m) 0 a = x_fl (a_un α) (a_F α (a_c α)) (a_F α (a_c α) + m) 0 a
    have ha : a < va_up (a_F α) (a_c α) (a_F α (a_c α) + m) (a_c α) := ha
    rw [up_at] at ha
    unfold x_fl
    by_cases e : a_F α (a_c α) ≤ a ∧ a < a_F α (a_c α) + m
    · rw [if_pos e, if_pos e]
    · rw [if_neg e, if_neg e]
      exact h.2.2.2.2.2.2 a (by omega)
theorem XR.grow0 {n : Nat} {α : AS} {σ : XS} (h : XR n α σ) (g : GE α) {m : Nat} : XR n (a_grow0 α m) (xLay4 (x_sen (x_su σ (x_fl (x_u σ) (a_F α (a_c α)) (a_F α (a_c α) + m) 0)) (nI (a_F α (a_c α) + m))) (a_F α (a_c α)) m) := by
  obtain ⟨u, z, tt, r, la, en, vi, tp⟩ := σ
  refine ⟨⟨fun j hj => ?_, fun a ha hj => ?_⟩, ?_, h.2.2.1, h.2.2.2.1, fun q hq hT => ?_, fun hno => ?_, fun a ha => ?_⟩
  · have hj : j < a_c α + 1 := hj
    show upd tt (a_F α (a_c α)) 4 (va_up (a_F α) (a_c α + 1) (a_F α (a_c α) + m) j) = va_up (a_T α) (a_c α) 4 j ∧ upd z (a_F α (a_c α)) (nI m) (va_up (a_F α) (a_c α + 1) (a_F α (a_c α) + m) j) = nI (va_up (a_S α) (a_c α) m j) ∧ ((va_up (a_T α) (a_c α) 4 j = 1 ∨ va_up (a_T α) (a_c α) 4 j = 2) → r (va_up (a_F α) (a_c α + 1) (a_F α (a_c α) + m) j) = a_C α j)
    rw [up_ne (show j ≠ a_c α + 1 by omega)]
    by_cases e : j = a_c α
    · subst e
      rw [ud_at, ud_at, up_at, up_at]
      exact ⟨rfl, rfl, fun y => absurd y (by decide)⟩
    · have ne : a_F α j ≠ a_F α (a_c α) := fun y => e (g.inj (by omega) (by omega) y)
      rw [ud_ne ne, ud_ne ne, up_ne e, up_ne e]
      exact h.1.1 j (by omega)
  · have hj : ∀ j, j < a_c α + 1 → va_up (a_F α) (a_c α + 1) (a_F α (a_c α) + m) j ≠ a := hj
    have hj2 : ∀ j, j < a_c α + 1 → a_F α j ≠ a := fun j y => by
      have := hj j y
      rw [up_ne (by omega)] at this
      exact this
    show upd tt (a_F α (a_c α)) 4 a = -1
    rw [ud_ne (fun y => hj2 (a_c α) (by omega) y.symm)]
    exact h.1.2 a ha (fun j y => hj2 j (by omega))
  · show nI (a_F α (a_c α) + m) = nI (va_up (a_F α) (a_c α + 1) (a_F α (a_c α) + m) (a_c α + 1))
    rw [up_at]
  · have hq : q + 1 = a_c α + 1 := hq
    have : q = a_c α := by omega
    subst this
    show nI (a_F α (a_c α)) = nI (va_up (a_F α) (a_c α + 1) (a_F α (a_c α) + m) (a_c α))
    rw [up_ne (by omega)]
  · rcases hno with y | ⟨q, hq, y⟩
    · have y : a_c α + 1 = 0 := y
      omega
    · have hq : q + 1 = a_c α + 1 := hq
      have : q = a_c α := by omega
      subst this
      have y : va_up (a_T α) (a_c α) 4 (a_c α) = 0 := y
      rw [up_at] at y; exact absurd y (by decide)
  · show x_fl u (a_F α (a_c α)) (a_F α (a_c α) + m) 0 a = x_fl (a_un α) (a_F α (a_c α)) (a_F α (a_c α) + m) 0 a
    have ha : a < va_up (a_F α) (a_c α + 1) (a_F α (a_c α) + m) (a_c α + 1) := ha
    rw [up_at] at ha
    unfold x_fl
    by_cases e : a_F α (a_c α) ≤ a ∧ a < a_F α (a_c α) + m
    · rw [if_pos e, if_pos e]
    · rw [if_neg e, if_neg e]
      exact h.2.2.2.2.2.2 a (by omega)
theorem X_grow {n : Nat} {α : AS} {σ : XS} (h : XR n α σ) (w : WF n α) {u : Nat} (hu1 : 1 ≤ u) (hu : u < 2000) {post : Int32 → XS → Prop} (h1 : a_F α (a_c α) + up16 u ≤ n → ∀ t, t + 1 = a_c α → a_T α t = 4 → ∀ σ', XR n (a_growT α t (up16 u)) σ' → post 1 σ') (h2 : a_F α (a_c α) + up16 u ≤ n → noTop α → ∀ σ', XR n (a_grow0 α (up16 u)) σ' → post 1 σ') (h3 : n < a_F α (a_c α) + up16 u → post 0 σ) : wX_grow n (nI n) σ (nI u) post := by
  have g := w.ge
  have hc := g.c
  have hE := g.2.2
  have hn5 := w.2.2.1
  have e16 : (nI u + 16 - 1) / 16 * 16 = nI (up16 u) := by
    rw [show (16 : Int32) = nI 16 from rfl, nI_add, s_m _ (by omega), pk_div (by omega) (by omega) (by omega), pk_mul]
    rfl
  have hup : up16 u ≤ 2100 ∧ 1 ≤ up16 u := by unfold up16; omega
  unfold wX_grow
  rw [e16, h.2.1, nI_add, s_le (by omega) (by omega)]
  refine ⟨fun q => ?_, fun q => h3 (by omega)⟩
  have side : ((¬ nI (a_F α (a_c α)) + nI (up16 u) < nI (a_F α (a_c α)) ∧ ¬ nI (a_F α (a_c α)) < 0 ∧ ¬ nI n < nI (a_F α (a_c α)) + nI (up16 u) ∧ n < 2 ^ 31)) := by
    rw [nI_add, s_lt (by omega) (by omega), s_lt (by omega) (by omega)]
    exact ⟨by omega, s_pos (by omega), by omega, by omega⟩
  have l47 : ∀ (p S : Nat), p < n → S < 1000 → (∀ post2 : Int32 → XS → Prop, post2 (nI S) σ → wX_sizeAt n (nI n) σ (x_tp σ) post2) → post 1 (xLay4 (x_sen (x_su σ (x_fl (x_u σ) (a_F α (a_c α)) (a_F α (a_c α) + up16 u) 0)) (nI (a_F α (a_c α) + up16 u))) p (S + up16 u)) → wX_grow_47 n (nI n) σ (nI (up16 u)) (nI p) post := by
    intro p S hp hS hsz hq
    unfold wX_grow_47
    refine hsz _ ?_
    rw [h.2.1]
    refine ⟨side, ?_⟩
    rw [show x_en (x_su σ (x_fl (x_u σ) (nI (a_F α (a_c α))).toNatClampNeg (nI (a_F α (a_c α)) + nI (up16 u)).toNatClampNeg 0)) = nI (a_F α (a_c α)) from h.2.1, nI_add, nI_add, s_cl (by omega), s_cl (by omega)]
    refine X_lay _ 4 hp (by omega) (by omega) (by decide) ?_
    exact hq
  rcases Nat.eq_zero_or_pos (a_c α) with z | z
  · have hno : noTop α := Or.inl z
    rw [h.2.2.2.2.2.1 hno]
    refine ⟨fun y => absurd rfl y, fun _ => l47 _ 0 (by omega) (by omega) (fun p2 hp2 => ?_) ?_⟩
    · rw [h.2.2.2.2.2.1 hno]; exact X_sizeAtM _ hp2
    · rw [show 0 + up16 u = up16 u by omega]
      exact h2 q hno _ (XR.grow0 h g)
  · by_cases t0 : a_T α (a_c α - 1) = 0
    · have hno : noTop α := Or.inr ⟨a_c α - 1, by omega, t0⟩
      rw [h.2.2.2.2.2.1 hno]
      refine ⟨fun y => absurd rfl y, fun _ => l47 _ 0 (by omega) (by omega) (fun p2 hp2 => ?_) ?_⟩
      · rw [h.2.2.2.2.2.1 hno]; exact X_sizeAtM _ hp2
      · rw [show 0 + up16 u = up16 u by omega]
        exact h2 q hno _ (XR.grow0 h g)
    · have ht : a_c α - 1 + 1 = a_c α := by omega
      have t4 := w.top4 ht t0
      have l := g.lt (a_c α - 1) (a_c α) (by omega) (Nat.le_refl _)
      have hS := g.sz (show a_c α - 1 < a_c α by omega)
      have etp := h.2.2.2.2.1 (a_c α - 1) ht t0
      rw [etp]
      refine ⟨fun _ => l47 _ (a_S α (a_c α - 1)) (by omega) (by omega) (fun p2 hp2 => ?_) ?_, fun y => absurd y (s_m1 (by omega))⟩
      · rw [etp]
        refine X_sizeAtN _ (by omega) (by omega) ?_
        rw [h.1.z (by omega)]
        exact hp2
      · exact h1 q _ ht t4 _ (XR.growT h g ht t4)
theorem s_sub0 {a b : Nat} (ha : a < 100000) (hb : b < 100000) : nI a - nI b ≤ 0 ↔ a ≤ b := by
  rw [Int32.le_iff_toInt_le, pk_sub_toInt (by omega) (by omega), show (0 : Int32).toInt = 0 from by decide]
  omega
theorem X_cutT {n : Nat} {α : AS} (lim : Int32) {σ : XS} (h : XR n α σ) (w : WF n α) {t s : Nat} (ht : t + 1 = a_c α) (h4 : a_T α t = 4) (h2 : 2 ≤ s) (hs : s ≤ a_S α t) {post : Int32 → XS → Prop} (hp : ∀ σ', XR n (cutT α t s) σ' → post (nI (a_F α t)) σ') : wX_cut n lim σ (x_tp σ) (nI s) 4 post := by
  have g := w.ge
  have hn5 := w.2.2.1
  have hEn := w.2.1
  have l := g.lt t (a_c α) (by omega) (Nat.le_refl _)
  have l4 := w.t4 (show t < a_c α by omega) h4
  rw [h.2.2.2.2.1 t ht (by rw [h4]; decide)]
  refine X_cut lim 4 (h.1.z (by omega)) hs (by omega) (by omega) (by omega) (by decide) (fun q => hp _ ?_) (fun q => hp _ ?_)
  · unfold cutT; rw [if_pos q]
    exact h.use g (by omega) (V' := a_V α) (by rw [if_neg l4.2])
  · unfold cutT; rw [if_neg (by omega)]
    exact XR.cut4 h g (by omega) h2 q ht l4.2
theorem cutT_c (α : AS) (t s : Nat) : t < a_c α → t < a_c (cutT α t s) ∧ a_F (cutT α t s) t = a_F α t := by
  intro ht
  unfold cutT
  split
  · exact ⟨ht, rfl⟩
  · exact ⟨show t < a_c α + 1 by omega, a_ins_lo (Nat.le_refl _)⟩
theorem X_take {n : Nat} {α : AS} {σ : XS} (h : XR n α σ) (w : WF n α) {s : Nat} (hs2 : 2 ≤ s) (hs : s < 1000) {post : Int32 → XS → Prop} (hp : ∀ k β σ', TK n α s k β → WF n β → XR n β σ' → k < a_c β → a_F β k < 1000 → post (nI (a_F β k)) σ') (hn : TN n α s → post (-1) σ) : wX_take n (nI n) σ (nI s) post := by
  have g := w.ge
  have hc := g.c
  have hn5 := w.2.2.1
  have hE := g.2.2
  have top : NoSt α s → wX_takeFromTop n (nI n) σ (nI s) (fun r31 σ31 => post r31 σ31) := by
    intro hno
    unfold wX_takeFromTop
    refine X_topz _ h w (fun hnt => ?_) (fun t ht h4 => ?_)
    · have e0 : nI s - 0 = nI s := s_sub (b := 0) (by omega)
      have hup : s ≤ up16 s := by unfold up16; omega
      rw [e0]
      refine ⟨fun q => absurd ((s_le (b := 0) (by omega) (by omega)).mp q) (by omega), fun _ => ?_⟩
      refine X_grow h w (by omega) (by omega) (fun q2 t ht t4 σ' hx => ?_) (fun q2 _ σ' hx => ?_) (fun q2 => ?_)
      · rcases hnt with z | ⟨t2, ht2, z⟩
        · omega
        · have : t2 = t := by omega
          subst this; rw [t4] at z; exact absurd z (by decide)
      · have w1 := w.grow0 hnt (m := up16 s) (by omega) q2
        have t4 : a_T (a_grow0 α (up16 s)) (a_c α) = 4 := up_at
        have eS : a_S (a_grow0 α (up16 s)) (a_c α) = up16 s := up_at
        refine ⟨fun _ => ?_, fun z => absurd z (by decide)⟩
        unfold wX_takeFromTop_25
        refine X_cutT _ hx w1 (t := a_c α) rfl t4 hs2 (by rw [eS]; omega) (fun σ2 hx2 => ?_)
        have cc := cutT_c (a_grow0 α (up16 s)) (a_c α) s (show a_c α < a_c α + 1 by omega)
        have hl := w1.ge.le (show a_c α ≤ a_c α + 1 by omega)
        rw [← cc.2] at hl ⊢
        exact hp _ _ σ2 (Or.inr (Or.inr ⟨hno, Or.inr (Or.inr ⟨hnt, q2, rfl, rfl⟩)⟩)) (w1.kT (show a_c α < a_c α + 1 by omega) t4 hs2) hx2 cc.1 (by omega)
      · exact ⟨fun z => absurd rfl z, fun _ => hn ⟨hno, Or.inr ⟨hnt, q2⟩⟩⟩
    · have hSt := g.sz (show t < a_c α by omega)
      have hl := g.le (show t ≤ a_c α by omega)
      rw [s_sub0 (by omega) (by omega)]
      refine ⟨fun q => ?_, fun q => ?_⟩
      · unfold wX_takeFromTop_25
        refine X_cutT _ h w ht h4 hs2 q (fun σ2 hx2 => ?_)
        have cc := cutT_c α t s (by omega)
        rw [← cc.2] at hl ⊢
        exact hp _ _ σ2 (Or.inr (Or.inr ⟨hno, Or.inl ⟨ht, h4, q, rfl⟩⟩)) (w.kT (by omega) h4 hs2) hx2 cc.1 (by omega)
      · rw [s_sub (by omega)]
        have hup : s - a_S α t ≤ up16 (s - a_S α t) := by unfold up16; omega
        refine X_grow h w (by omega) (by omega) (fun q2 t2 ht2 t4 σ' hx => ?_) (fun q2 hnt σ' hx => ?_) (fun q2 => ?_)
        · have : t2 = t := by omega
          subst this
          have w1 := w.growT ht h4 q2
          have eS : a_S (a_growT α t2 (up16 (s - a_S α t2))) t2 = a_S α t2 + up16 (s - a_S α t2) := up_at
          refine ⟨fun _ => ?_, fun z => absurd z (by decide)⟩
          unfold wX_takeFromTop_25
          refine X_cutT _ hx w1 (t := t2) ht h4 hs2 (by rw [eS]; omega) (fun σ2 hx2 => ?_)
          have cc := cutT_c (a_growT α t2 (up16 (s - a_S α t2))) t2 s (show t2 < a_c α by omega)
          have hl := w1.ge.le (show t2 ≤ a_c α by omega)
          rw [← cc.2] at hl ⊢
          exact hp _ _ σ2 (Or.inr (Or.inr ⟨hno, Or.inr (Or.inl ⟨ht, h4, by omega, q2, rfl⟩)⟩)) (w1.kT (show t2 < a_c α by omega) h4 hs2) hx2 cc.1 (by omega)
        · rcases hnt with z | ⟨t2, ht2, z⟩
          · omega
          · have : t2 = t := by omega
            subst this; rw [h4] at z; exact absurd z (by decide)
        · exact ⟨fun z => absurd rfl z, fun _ => hn ⟨hno, Or.inl ⟨t, ht, h4, by omega, q2⟩⟩⟩
  have got : ∀ (k : Nat) (β : AS) (σ' : XS), TK n α s k β → WF n β → XR n β σ' → k < a_c β → a_F β k = a_F α k → wX_take_19 n (nI n) σ' (nI s) (nI (a_F α k)) post := by
    intro k β σ' ht wb hx hk e
    have hl := wb.ge.le (Nat.le_of_lt hk)
    rw [← e]
    exact ⟨fun z => absurd z (s_m1 (by omega)), fun _ => hp k β σ' ht wb hx hk (by omega)⟩
  refine ⟨fun q => ?_, fun q => ?_⟩
  · have q := (s_le (a := 16) (by omega) (by omega)).mp q
    exact X_takeLarge _ h w q hs (fun k β σ' ht wb hx hk e => got k β σ' (Or.inr (Or.inl ⟨q, ht⟩)) wb hx hk e) (fun hno => ⟨fun _ => top hno, fun z => absurd rfl z⟩)
  · have q : ¬ 16 ≤ s := fun z => q ((s_le (a := 16) (by omega) (by omega)).mpr z)
    exact X_takeSmall _ h w hs2 (by omega) (fun k β σ' ht wb hx hk e => got k β σ' (Or.inl ⟨by omega, ht⟩) wb hx hk e) (fun hno => ⟨fun _ => top hno, fun z => absurd rfl z⟩)
