theorem cpy_0 (f : Nat → Int32) (p q : Nat) : va_cpy f f p q 0 = f := funext fun j => if_neg (by omega)
theorem cpy_s (f : Nat → Int32) {p q i : Nat} (h : p + i < q ∨ q + i ≤ p + i) : upd (va_cpy f f p q i) (q + i) (va_cpy f f p q i (p + i)) = va_cpy f f p q (i + 1) := by
  have e : va_cpy f f p q i (p + i) = f (p + i) := if_neg (by omega)
  rw [e]
  funext j
  by_cases z : j = q + i
  · subst z
    rw [ud_at]
    unfold va_cpy
    rw [if_pos (by omega), show q + i - q = i by omega]
  · rw [ud_ne z]
    unfold va_cpy
    by_cases y : q ≤ j ∧ j < q + i
    · rw [if_pos y, if_pos (by omega)]
    · rw [if_neg y, if_neg (by omega)]
/-- moved: the data copied, the old chunk given back -/
def aMv (γ : AS) (o t : Nat) : AS := gGive (a_sun γ (va_cpy (a_un γ) (a_un γ) (a_F γ o + 1) (a_F γ t + 1) (a_S γ o - 1))) o
theorem M_moveloop {γ : AS} {μ : MS} (lim : Int32) (h : MR γ μ) (g : GE γ) {o t : Nat} (ho : o < a_c γ) (ht : t < a_c γ) (hne : o ≠ t) (hle : a_S γ o ≤ a_S γ t) {post : Int32 → MS → Prop} (hp : ∀ μ', MR (aMv γ o t) μ' → post (nI (a_F γ t + 1)) μ') : ∃ f, wM_moveTo_34 lim post f μ (nI (a_F γ o + 1)) (nI (a_F γ t + 1)) (nI o) 0 := by
  have hc := g.c
  have hSo := g.sz ho
  have hSt := g.sz ht
  have hSo2 := g.2.1 o ho
  have hE := g.2.2
  have dis : a_F γ o + a_S γ o ≤ a_F γ t ∨ a_F γ t + a_S γ t ≤ a_F γ o := by
    rcases Nat.lt_or_ge o t with z | z
    · exact Or.inl (g.lt o t z (Nat.le_of_lt ht)).1
    · exact Or.inr (g.lt t o (by omega) (Nat.le_of_lt ho)).1
  obtain ⟨un, fi, sz, us, ca, en, ch, cl, vi⟩ := μ
  have eu : un = a_un γ := h.un
  have key : ∀ f i, i ≤ a_S γ o - 1 → a_S γ o - 1 < i + f → wM_moveTo_34 lim post f (va_cpy un un (a_F γ o + 1) (a_F γ t + 1) i, fi, sz, us, ca, en, ch, cl, vi) (nI (a_F γ o + 1)) (nI (a_F γ t + 1)) (nI o) (nI i) := by
    intro f
    induction f with
    | zero => intro i h1 h2; omega
    | succ f ih =>
      intro i h1 h2
      show wM_moveTo_34_s lim post (wM_moveTo_34 lim post f) (va_cpy un un (a_F γ o + 1) (a_F γ t + 1) i, fi, sz, us, ca, en, ch, cl, vi) (nI (a_F γ o + 1)) (nI (a_F γ t + 1)) (nI o) (nI i)
      unfold wM_moveTo_34_s
      rw [s_cl (show o < 100000 by omega), show m_sz (va_cpy un un (a_F γ o + 1) (a_F γ t + 1) i, fi, sz, us, ca, en, ch, cl, vi) o = nI (a_S γ o) from h.sz ho, s_m _ (by omega), s_le (by omega) (by omega), nI_add, nI_add, s_cl (show a_F γ o + 1 + i < 100000 by omega), s_cl (show a_F γ t + 1 + i < 100000 by omega), s_1]
      refine ⟨s_in (by omega) (by omega), fun q => ?_, fun q => ⟨s_in (by omega) (by omega), s_in (by omega) (by omega), ?_⟩⟩
      · have e : i = a_S γ o - 1 := by omega
        subst e
        have hm : MR (a_sun γ (va_cpy (a_un γ) (a_un γ) (a_F γ o + 1) (a_F γ t + 1) (a_S γ o - 1))) (va_cpy un un (a_F γ o + 1) (a_F γ t + 1) (a_S γ o - 1), fi, sz, us, ca, en, ch, cl, vi) := by
          refine ⟨h.1, h.2.1, h.2.2.1, h.2.2.2.1, ?_, h.2.2.2.2.2⟩
          show va_cpy un un _ _ _ = va_cpy (a_un γ) (a_un γ) _ _ _
          rw [eu]
        exact M_give lim hm g ho hp
      · have r := ih (i + 1) (by omega) (by omega)
        rw [← cpy_s un (show a_F γ o + 1 + i < a_F γ t + 1 ∨ a_F γ t + 1 + i ≤ a_F γ o + 1 + i by omega)] at r
        exact r
  refine ⟨a_S γ o, ?_⟩
  have r := key (a_S γ o) 0 (by omega) (by omega)
  rw [cpy_0] at r
  exact r
theorem WF.mv {n : Nat} {γ : AS} (w : WF n γ) {o t : Nat} (ho : o < a_c γ) (hT : a_T γ o = 0) : WF n (aMv γ o t) :=
  WF.give (α := a_sun γ (va_cpy (a_un γ) (a_un γ) (a_F γ o + 1) (a_F γ t + 1) (a_S γ o - 1))) w ho hT
/-- where the old chunk lies after taking -/
theorem TK_old {n : Nat} {α : AS} (w : WF n α) {s k : Nat} {β : AS} (h2 : 2 ≤ s) (h : TK n α s k β) {j : Nat} (hj : j < a_c α) (hT : a_T α j = 0) (hlt : a_S α j < s) : ∃ o, o < a_c β ∧ a_F β o = a_F α j ∧ a_S β o = a_S α j ∧ a_T β o = 0 ∧ o ≠ k ∧ a_S β o ≤ a_S β k := by
  obtain ⟨kp, hs, hne⟩ := TK_kp w h2 h
  obtain ⟨o, a, b, c, d⟩ := kp j hj hT
  refine ⟨o, a, b, c, d, fun e => ?_, by omega⟩
  subst e
  exact hne j hj hT b
theorem X_move {n : Nat} {α : AS} {σ : XS} (h : XR n α σ) (w : WF n α) {j s : Nat} (hj : j < a_c α) (hT : a_T α j = 0) (h2 : 2 ≤ s) (hs9 : s < 1000) (hlt : a_S α j < s) {post : Int32 → XS → Prop} (hp : ∀ k β o σ', TK n α s k β → WF n β → o < a_c β → a_F β o = a_F α j → a_T β o = 0 → o ≠ k → k < a_c β → a_S β o ≤ a_S β k → XR n (aMv β o k) σ' → post (nI (a_F β k)) σ') (hf : TN n α s → post (-1) σ) : wX_move n (nI n) σ (nI (a_F α j)) (nI s) post := by
  unfold wX_move
  refine X_take h w h2 hs9 (fun k β σ' ht wb hx hk hl => ?_) (fun ht => ⟨fun _ => hf ht, fun z => absurd rfl z⟩)
  refine ⟨fun z => absurd z (s_m1 (by omega)), fun _ => ?_⟩
  obtain ⟨o, ho, oF, oS, oT, one, ole⟩ := TK_old w h2 ht hj hT hlt
  have g := wb.ge
  have hE := wb.2.1
  have hn := wb.2.2.1
  have hSo := g.sz ho
  have hSo2 := g.2.1 o ho
  have hSk := g.sz hk
  rw [← oF, s_cl (show a_F β o < 100000 by omega), hx.1.z ho, s_1, s_1, s_m _ (by omega), s_cl (show a_F β o + 1 < 100000 by omega), s_cl (show a_F β k + 1 < 100000 by omega), s_cl (show a_S β o - 1 < 100000 by omega)]
  refine ⟨s_in (by omega) (by omega), ⟨s_pos (by omega), s_pos (by omega), s_pos (by omega), by omega, by omega⟩, ?_⟩
  refine X_release (α := a_sun β (va_cpy (a_un β) (a_un β) (a_F β o + 1) (a_F β k + 1) (a_S β o - 1))) _ ?_ wb ho oT (fun σ2 hx2 => hp k β o σ2 ht wb ho oF oT one hk ole hx2)
  refine ⟨hx.1, hx.2.1, hx.2.2.1, hx.2.2.2.1, hx.2.2.2.2.1, hx.2.2.2.2.2.1, fun c hc => ?_⟩
  have hc : c < a_F β (a_c β) := hc
  show va_cpy (x_u σ') (x_u σ') _ _ _ c = va_cpy (a_un β) (a_un β) _ _ _ c
  unfold va_cpy
  split
  · exact hx.2.2.2.2.2.2 _ (by omega)
  · exact hx.2.2.2.2.2.2 c hc
theorem M_moveTo {n : Nat} {α : AS} {μ : MS} (h : MR α μ) (w : WF n α) {j s : Nat} (hj : j < a_c α) (hT : a_T α j = 0) (h2 : 2 ≤ s) (hs9 : s < 1000) (hlt : a_S α j < s) {post : Int32 → MS → Prop} (hp : ∀ k β o μ', TK n α s k β → o < a_c β → a_F β o = a_F α j → MR (aMv β o k) μ' → post (nI (a_F β k + 1)) μ') (hf : TN n α s → post 0 μ) : wM_moveTo (nI n) μ (nI (a_F α j + 1)) (nI s) post := by
  unfold wM_moveTo
  refine M_take h w h2 hs9 (fun k β μ' ht hm => ?_) (fun ht => ⟨fun z => absurd z (by decide), fun _ => hf ht⟩)
  obtain ⟨wb, hk, -⟩ := TK_wf w h2 ht
  have g := wb.ge
  have hc := g.c
  obtain ⟨o, ho, oF, oS, oT, one, ole⟩ := TK_old w h2 ht hj hT hlt
  rw [← oF, s_m _ (by omega), show a_F β o + 1 - 1 = a_F β o by omega, s_cl (show k < 100000 by omega), hm.fi hk, s_1]
  refine ⟨fun _ => ⟨s_in (by omega) (by omega), M_atk _ hm g ho ?_⟩, fun z => absurd (s_pos' (by omega)) z⟩
  exact M_moveloop _ hm g ho hk one ole (fun μ2 hm2 => hp k β o μ2 ht ho oF hm2)
theorem X_unitsFor {n : Nat} (lim : Int32) {σ : XS} {v : Int32} (q : v ≤ 511) {post : Int32 → XS → Prop} (hp : post (nI (uf v)) σ) : wX_unitsFor n lim σ v post := by
  unfold wX_unitsFor
  rw [(uf_spec q).1]
  exact hp
theorem X_realloc {n : Nat} {α : AS} {σ : XS} (h : XR n α σ) (w : WF n α) (a b : Int32) {post : Int32 → XS → Prop}
    (p0 : ((∀ j, ¬ Ptr α a j) ∨ ¬ b ≤ 511) → post 0 σ)
    (pS : b ≤ 511 → ∀ j, Ptr α a j → uf b ≤ a_S α j → ∀ σ', XR n (aSh α j (uf b)) σ' → post a σ')
    (pL : b ≤ 511 → ∀ j, Ptr α a j → a_S α j < uf b → ∀ β σ', LN n α j (uf b) β → XR n β σ' → post a σ')
    (pM : b ≤ 511 → ∀ j, Ptr α a j → a_S α j < uf b → LF n α j (uf b) → ∀ k β o σ', TK n α (uf b) k β → WF n β → o < a_c β → a_F β o = a_F α j → a_T β o = 0 → o ≠ k → k < a_c β → a_S β o ≤ a_S β k → XR n (aMv β o k) σ' → post (nI (a_F β k + 1)) σ')
    (pN : b ≤ 511 → ∀ j, Ptr α a j → a_S α j < uf b → LF n α j (uf b) → TN n α (uf b) → post 0 σ) : wX_realloc n (nI n) σ a b post := by
  have g := w.ge
  have hE := w.2.1
  have hn := w.2.2.1
  unfold wX_realloc
  refine X_isPointer _ h w a (fun j hj => ⟨fun y => absurd y (by decide), fun _ => ⟨fun q => ?_, fun q => p0 (Or.inr q)⟩⟩) (fun z => ⟨fun _ => p0 (Or.inl z), fun y => absurd rfl y⟩)
  obtain ⟨e, l1, l2⟩ := uf_spec q
  have hl := g.lt j (a_c α) hj.1 (Nat.le_refl _)
  have hS := g.sz hj.1
  refine X_unitsFor _ q ?_
  rw [← i_sub1.mpr hj.2.1, s_cl (show a_F α j < 100000 by omega), h.1.z hj.1, s_lt (by omega) (by omega)]
  refine ⟨s_in (by omega) (by omega), fun y => ?_, fun y => ?_⟩
  · refine X_lengthen h w hj.1 hj.2.2 l1 (by omega) y (fun β σ' hl hx => ⟨fun z => absurd z (by decide), fun _ => pL q j hj y β σ' hl hx⟩) (fun hl => ⟨fun _ => ?_, fun z => absurd rfl z⟩)
    refine X_move h w hj.1 hj.2.2 l1 (by omega) y (fun k β o σ' ht wb ho oF oT one hk ole hx => ?_) (fun ht => ?_)
    · have hk2 := wb.ge.le (Nat.le_of_lt hk)
      unfold wX_pointerTo
      rw [s_1]
      exact ⟨fun _ => pM q j hj y hl k β o σ' ht wb ho oF oT one hk ole hx, fun z => absurd z (s_m1 (by omega))⟩
    · exact ⟨fun z => absurd rfl z, fun _ => pN q j hj y hl ht⟩
  · exact X_shorten _ h w hj.1 hj.2.2 l1 (by omega) (fun σ' hx => pS q j hj (by omega) σ' hx)
theorem M_realloc {n : Nat} {α : AS} {μ : MS} (h : MR α μ) (w : WF n α) (a b : Int32) {post : Int32 → MS → Prop}
    (p0 : ((∀ j, ¬ Ptr α a j) ∨ ¬ b ≤ 511) → post 0 μ)
    (pS : b ≤ 511 → ∀ j, Ptr α a j → uf b ≤ a_S α j → ∀ μ', MR (aSh α j (uf b)) μ' → post a μ')
    (pL : b ≤ 511 → ∀ j, Ptr α a j → a_S α j < uf b → ∀ β μ', LN n α j (uf b) β → MR β μ' → post a μ')
    (pM : b ≤ 511 → ∀ j, Ptr α a j → a_S α j < uf b → LF n α j (uf b) → ∀ k β o μ', TK n α (uf b) k β → o < a_c β → a_F β o = a_F α j → MR (aMv β o k) μ' → post (nI (a_F β k + 1)) μ')
    (pN : b ≤ 511 → ∀ j, Ptr α a j → a_S α j < uf b → LF n α j (uf b) → TN n α (uf b) → post 0 μ) : wM_realloc (nI n) μ a b post := by
  have g := w.ge
  have hc := g.c
  unfold wM_realloc
  refine M_holder _ h w a (fun j hj => ⟨fun y => absurd y (s_pos (by have := hj.1; omega)), fun _ => ⟨fun q => ?_, fun q => p0 (Or.inr q)⟩⟩) (fun z => ⟨fun _ => p0 (Or.inl z), fun y => absurd (by decide) y⟩)
  obtain ⟨e, l1, l2⟩ := uf_spec q
  have em := uf_mod q
  have hj1 := hj.1
  have hS := g.sz hj.1
  have body : wM_realloc_31 (nI n) μ a (nI j) (nI (uf b)) post := by
    unfold wM_realloc_31
    rw [s_cl (show j < 100000 by omega), h.sz hj.1, s_lt (by omega) (by omega)]
    refine ⟨s_in (by omega) (by omega), fun y => ?_, fun y => ?_⟩
    · refine M_lengthen h w hj.1 hj.2.2 l1 (by omega) y (fun β μ' hl hm => ⟨fun z => absurd z (by decide), fun _ => pL q j hj y β μ' hl hm⟩) (fun hl => ⟨fun _ => ?_, fun z => absurd rfl z⟩)
      rw [hj.2.1]
      rw [hj.2.1] at pM pN hj
      exact M_moveTo h w hj.1 hj.2.2 l1 (by omega) y (fun k β o μ' ht ho oF hm => pM q j hj y hl k β o μ' ht ho oF hm) (fun ht => pN q j hj y hl ht)
    · exact M_shorten _ h g hj.1 l1 (by omega) (fun μ' hm => pS q j hj (by omega) μ' hm)
  refine ⟨fun y => ?_, fun y => ?_⟩
  · rw [em.1 y]; exact body
  · rw [em.2 y]; exact body
theorem sim_realloc {n k : Nat} {σ : XS} {μ : MS} (a b : Int32) (hr : Rel n k σ μ) : wX_realloc n (nI n) σ a b (fun r σ1 => wM_realloc (nI n) μ a b (fun r1 μ1 => r = r1 ∧ Rel n (k + 1) σ1 μ1)) := by
  obtain ⟨h16, α, w, hm, hx⟩ := hr
  have no : ∀ {P : Prop} {j : Nat}, Ptr α a j → b ≤ 511 → ((∀ j, ¬ Ptr α a j) ∨ ¬ b ≤ 511) → P := fun hj q z => (z.elim (fun y => y _ hj) (fun y => y q)).elim
  refine X_realloc hx w a b (fun q => ?_) (fun q j hj hs σ' hx2 => ?_) (fun q j hj hs β σ' hl hx2 => ?_) (fun q j hj hs hl i β o σ' ht wb ho oF oT one hk ole hx2 => ?_) (fun q j hj hs hl ht => ?_)
  · exact M_realloc hm w a b (fun _ => ⟨rfl, h16, α, w, hm, hx⟩) (fun q2 j2 hj2 => no hj2 q2 q) (fun q2 j2 hj2 => no hj2 q2 q) (fun q2 j2 hj2 => no hj2 q2 q) (fun q2 j2 hj2 => no hj2 q2 q)
  · refine M_realloc hm w a b (fun z => no hj q z) (fun _ j2 hj2 _ μ' hm2 => ?_) (fun _ j2 hj2 hs2 => ?_) (fun _ j2 hj2 hs2 => ?_) (fun _ j2 hj2 hs2 => ?_)
    · have := hj.uniq w hj2
      subst this
      exact ⟨rfl, h16, _, w.short hj.1 hj.2.2 (uf_spec q).2.1, hm2, hx2⟩
    all_goals
      have := hj.uniq w hj2
      subst this
      omega
  · refine M_realloc hm w a b (fun z => no hj q z) (fun _ j2 hj2 hs2 => ?_) (fun _ j2 hj2 hs2 β2 μ' hl2 hm2 => ?_) (fun _ j2 hj2 hs2 hl2 => ?_) (fun _ j2 hj2 hs2 hl2 => ?_)
    all_goals
      have := hj.uniq w hj2
      subst this
    · omega
    · have := LN_uniq hl hl2
      subst this
      exact ⟨rfl, h16, _, LN_wf w hj.1 hj.2.2 (uf_spec q).2.1 hs hl, hm2, hx2⟩
    · exact (LN_no hl hl2).elim
    · exact (LN_no hl hl2).elim
  · refine M_realloc hm w a b (fun z => no hj q z) (fun _ j2 hj2 hs2 => ?_) (fun _ j2 hj2 hs2 β2 μ' hl2 hm2 => ?_) (fun _ j2 hj2 hs2 hl2 i2 β2 o2 μ' ht2 ho2 oF2 hm2 => ?_) (fun _ j2 hj2 hs2 hl2 ht2 => ?_)
    all_goals
      have := hj.uniq w hj2
      subst this
    · omega
    · exact (LN_no hl2 hl).elim
    · obtain ⟨rfl, rfl⟩ := TK_uniq w ht ht2
      have : o = o2 := wb.ge.inj (Nat.le_of_lt ho) (Nat.le_of_lt ho2) (oF.trans oF2.symm)
      subst this
      exact ⟨rfl, h16, _, wb.mv ho oT, hm2, hx2⟩
    · exact (TK_no ht ht2).elim
  · refine M_realloc hm w a b (fun z => no hj q z) (fun _ j2 hj2 hs2 => ?_) (fun _ j2 hj2 hs2 β2 μ' hl2 hm2 => ?_) (fun _ j2 hj2 hs2 hl2 i2 β2 o2 μ' ht2 ho2 oF2 hm2 => ?_) (fun _ j2 hj2 hs2 hl2 ht2 => ?_)
    all_goals
      have := hj.uniq w hj2
      subst this
    · omega
    · exact (LN_no hl2 hl).elim
    · exact (TK_no ht2 ht).elim
    · exact ⟨rfl, h16, α, w, hm, hx⟩
