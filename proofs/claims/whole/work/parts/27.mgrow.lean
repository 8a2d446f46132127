def up16 (u : Nat) : Nat := (u + 15) / 16 * 16
def noTop (α : AS) : Prop := a_c α = 0 ∨ ∃ t, t + 1 = a_c α ∧ a_T α t = 0
def a_growT (α : AS) (t m : Nat) : AS := (a_c α, va_up (a_F α) (a_c α) (a_F α (a_c α) + m), va_up (a_S α) t (a_S α t + m), a_T α, a_C α, a_V α, a_K α, x_fl (a_un α) (a_F α (a_c α)) (a_F α (a_c α) + m) 0)
def a_grow0 (α : AS) (m : Nat) : AS := (a_c α + 1, va_up (a_F α) (a_c α + 1) (a_F α (a_c α) + m), va_up (a_S α) (a_c α) m, va_up (a_T α) (a_c α) 4, a_C α, a_V α, a_K α, x_fl (a_un α) (a_F α (a_c α)) (a_F α (a_c α) + m) 0)
theorem M_growloop {μ : MS} (lim : Int32) {e m : Nat} (he : m_en μ = nI e) (hm : e + m ≤ 512) {post : Int32 → MS → Prop} (hp : post 1 (m_sen (m_sun μ (x_fl (m_un μ) e (e + m) 0)) (nI (e + m)))) : ∃ f, wM_grow_103 lim post f μ (nI m) (nI e) := by
  have key : ∀ f i, e ≤ i → i ≤ e + m → e + m < i + f → wM_grow_103 lim post f (m_sun μ (x_fl (m_un μ) e i 0)) (nI m) (nI i) := by
    intro f
    induction f with
    | zero => intro i h1 h2; omega
    | succ f ih =>
      intro i h1 h2 h3
      show wM_grow_103_s lim post (wM_grow_103 lim post f) (m_sun μ (x_fl (m_un μ) e i 0)) (nI m) (nI i)
      unfold wM_grow_103_s
      rw [show m_en (m_sun μ (x_fl (m_un μ) e i 0)) = nI e from he, nI_add, s_le (by omega) (by omega), s_cl (by omega), s_1]
      refine ⟨fun q => ?_, fun q => ⟨s_in (by omega) (by omega), ?_⟩⟩
      · have z : i = e + m := by omega
        subst z
        unfold wM_grow_128
        rw [show m_en (m_sun μ (x_fl (m_un μ) e (e + m) 0)) = nI e from he, nI_add]
        exact hp
      · have r := ih (i + 1) (by omega) (by omega) (by omega)
        rw [← x_fl_s (m_un μ) 0 h1] at r
        exact r
  refine ⟨m + 1, ?_⟩
  have r := key (m + 1) e (by omega) (by omega) (by omega)
  rw [x_fl_0] at r
  exact r
theorem M_grow {n : Nat} {α : AS} {μ : MS} (h : MR α μ) (g : GE α) (hn5 : n ≤ 512) {u : Nat} (hu : u < 2000) {post : Int32 → MS → Prop} (h1 : a_F α (a_c α) + up16 u ≤ n → ∀ t, t + 1 = a_c α → ¬ a_T α t = 0 → ∀ μ', MR (a_growT α t (up16 u)) μ' → post 1 μ') (h2 : a_F α (a_c α) + up16 u ≤ n → noTop α → ∀ μ', MR (a_grow0 α (up16 u)) μ' → post 1 μ') (h3 : n < a_F α (a_c α) + up16 u → post 0 μ) : wM_grow (nI n) μ (nI u) post := by
  have hc := g.c
  have hE := g.2.2
  have e16 : (nI u + 15) / 16 * 16 = nI (up16 u) := by
    rw [show (15 : Int32) = nI 15 from rfl, nI_add, show (16 : Int32) = nI 16 from rfl, pk_div (by omega) (by omega) (by omega), pk_mul]
    rfl
  have hup : up16 u ≤ 2100 := by unfold up16; omega
  unfold wM_grow
  rw [e16, h.en, nI_add, s_le (by omega) (by omega)]
  refine ⟨fun q => ?_, fun q => h3 (by omega)⟩
  refine M_top _ h g (fun t ht hT => ?_) (fun hno => ?_)
  · refine ⟨fun _ => ?_, fun q2 => absurd (s_pos' (by omega)) q2⟩
    have it : vp_in (nI t) 258 := s_in (by omega) (by omega)
    have hSt := g.sz (show t < a_c α by omega)
    unfold wM_grow_83
    rw [s_cl (show t < 100000 by omega), h.sz (show t < a_c α by omega), nI_add]
    refine ⟨it, it, ?_⟩
    rw [show m_en (m_ssz μ (upd (m_sz μ) t (nI (a_S α t + up16 u)))) = nI (a_F α (a_c α)) from h.en]
    refine M_growloop (μ := m_ssz μ (upd (m_sz μ) t (nI (a_S α t + up16 u)))) (m := up16 u) _ h.en (by omega) (h1 q t ht hT _ ?_)
    obtain ⟨un, fi, sz, us, ca, en, ch, cl, vi⟩ := μ
    refine ⟨h.1, ?_, h.2.2.1, h.2.2.2.1, ?_, ?_⟩
    · show nI (a_F α (a_c α) + up16 u) = nI (va_up (a_F α) (a_c α) (a_F α (a_c α) + up16 u) (a_c α))
      rw [up_at]
    · show x_fl un _ _ 0 = x_fl (a_un α) _ _ 0
      rw [show un = a_un α from h.un]
    · intro j hj
      have hj : j < a_c α := hj
      show fi j = nI (va_up (a_F α) (a_c α) (a_F α (a_c α) + up16 u) j) ∧ upd sz t (nI (a_S α t + up16 u)) j = nI (va_up (a_S α) t (a_S α t + up16 u) j) ∧ us j = (if a_T α j = 0 then 1 else 0) ∧ ((a_T α j = 1 ∨ a_T α j = 2) → ca j = a_C α j)
      rw [up_ne (by omega)]
      by_cases z : j = t
      · subst z
        rw [ud_at, up_at]
        exact ⟨h.fi hj, rfl, h.us hj, h.ca hj⟩
      · rw [ud_ne z, up_ne z]
        exact ⟨h.fi hj, h.sz hj, h.us hj, h.ca hj⟩
  · refine ⟨fun q2 => absurd q2 (by decide), fun _ => ?_⟩
    have ic : vp_in (nI (a_c α)) 258 := s_in (by omega) (by omega)
    obtain ⟨un, fi, sz, us, ca, en, ch, cl, vi⟩ := μ
    have hch : ch = nI (a_c α) := h.1
    have hen : en = nI (a_F α (a_c α)) := h.2.1
    subst hch
    subst hen
    refine ⟨ic, ic, ic, ?_⟩
    show wM_grow_83 (nI n) (un, upd fi (nI (a_c α)).toNatClampNeg (nI (a_F α (a_c α))), upd sz (nI (a_c α)).toNatClampNeg 0, upd us (nI (a_c α)).toNatClampNeg 0, ca, nI (a_F α (a_c α)), nI (a_c α) + 1, cl, vi) (nI (up16 u)) (nI (a_c α)) post
    rw [s_cl (show a_c α < 100000 by omega), s_1]
    unfold wM_grow_83
    rw [s_cl (show a_c α < 100000 by omega)]
    refine ⟨ic, ic, ?_⟩
    have ez : m_sz (un, upd fi (a_c α) (nI (a_F α (a_c α))), upd sz (a_c α) 0, upd us (a_c α) 0, ca, nI (a_F α (a_c α)), nI (a_c α + 1), cl, vi) (a_c α) + nI (up16 u) = nI (up16 u) := by
      show upd sz (a_c α) 0 (a_c α) + nI (up16 u) = _
      rw [ud_at]
      exact Int32.zero_add _
    rw [ez]
    refine M_growloop (e := a_F α (a_c α)) (m := up16 u) _ rfl (by omega) (h2 q hno _ ?_)
    refine ⟨rfl, ?_, h.2.2.1, h.2.2.2.1, ?_, ?_⟩
    · show nI (a_F α (a_c α) + up16 u) = nI (va_up (a_F α) (a_c α + 1) (a_F α (a_c α) + up16 u) (a_c α + 1))
      rw [up_at]
    · show x_fl un _ _ 0 = x_fl (a_un α) _ _ 0
      rw [show un = a_un α from h.un]
    · intro j hj
      have hj : j < a_c α + 1 := hj
      show upd fi (a_c α) (nI (a_F α (a_c α))) j = nI (va_up (a_F α) (a_c α + 1) (a_F α (a_c α) + up16 u) j) ∧ upd (upd sz (a_c α) 0) (a_c α) (nI (up16 u)) j = nI (va_up (a_S α) (a_c α) (up16 u) j) ∧ upd us (a_c α) 0 j = (if va_up (a_T α) (a_c α) 4 j = 0 then 1 else 0) ∧ ((va_up (a_T α) (a_c α) 4 j = 1 ∨ va_up (a_T α) (a_c α) 4 j = 2) → ca j = a_C α j)
      rw [up_ne (show j ≠ a_c α + 1 by omega)]
      by_cases z : j = a_c α
      · subst z
        rw [ud_at, ud_at, up_at, ud_at, up_at]
        exact ⟨rfl, rfl, rfl, fun q => absurd q (by decide)⟩
      · rw [ud_ne z, ud_ne z, ud_ne z, up_ne z, ud_ne z, up_ne z]
        exact ⟨h.fi (by omega), h.sz (by omega), h.us (by omega), h.ca (by omega)⟩
def TT (n : Nat) (α : AS) (s k : Nat) (β : AS) : Prop :=
  (k + 1 = a_c α ∧ a_T α k = 4 ∧ s ≤ a_S α k ∧ β = cutT α k s) ∨
  (k + 1 = a_c α ∧ a_T α k = 4 ∧ a_S α k < s ∧ a_F α (a_c α) + up16 (s - a_S α k) ≤ n ∧ β = cutT (a_growT α k (up16 (s - a_S α k))) k s) ∨
  (noTop α ∧ a_F α (a_c α) + up16 s ≤ n ∧ k = a_c α ∧ β = cutT (a_grow0 α (up16 s)) k s)
def TF (n : Nat) (α : AS) (s : Nat) : Prop :=
  (∃ t, t + 1 = a_c α ∧ a_T α t = 4 ∧ a_S α t < s ∧ n < a_F α (a_c α) + up16 (s - a_S α t)) ∨ (noTop α ∧ n < a_F α (a_c α) + up16 s)
def TK (n : Nat) (α : AS) (s k : Nat) (β : AS) : Prop := (s < 16 ∧ TS α s k β) ∨ (16 ≤ s ∧ TL α s k β) ∨ (NoSt α s ∧ TT n α s k β)
def TN (n : Nat) (α : AS) (s : Nat) : Prop := NoSt α s ∧ TF n α s
theorem WF.top4 {n : Nat} {α : AS} (w : WF n α) {t : Nat} (ht : t + 1 = a_c α) (hT : ¬ a_T α t = 0) : a_T α t = 4 := by
  rcases w.to (show t < a_c α by omega) with z | z | z | z | z
  · exact absurd z hT
  · exact absurd ht z.2.2
  · exact absurd ht z.2.2
  · exact absurd ht z.2.2
  · exact z.1
theorem GE.growT {α : AS} (g : GE α) {t m : Nat} (ht : t + 1 = a_c α) (hm : a_F α (a_c α) + m ≤ 512) : GE (a_growT α t m) := by
  refine ⟨?_, ?_, ?_⟩
  · show va_up (a_F α) (a_c α) (a_F α (a_c α) + m) 0 = 0
    rw [up_ne (by omega)]; exact g.1
  · intro j hj
    have hj : j < a_c α := hj
    show va_up (a_F α) (a_c α) (a_F α (a_c α) + m) (j + 1) = va_up (a_F α) (a_c α) (a_F α (a_c α) + m) j + va_up (a_S α) t (a_S α t + m) j ∧ 2 ≤ va_up (a_S α) t (a_S α t + m) j
    have := g.2.1 j hj
    rw [up_ne (show j ≠ a_c α by omega)]
    by_cases z : j = t
    · subst z
      rw [ht, up_at, up_at]
      rw [ht] at this
      omega
    · rw [up_ne (show j + 1 ≠ a_c α by omega), up_ne z]
      exact this
  · show va_up (a_F α) (a_c α) (a_F α (a_c α) + m) (a_c α) ≤ 512
    rw [up_at]; exact hm
theorem GE.grow0 {α : AS} (g : GE α) {m : Nat} (h2 : 2 ≤ m) (hm : a_F α (a_c α) + m ≤ 512) : GE (a_grow0 α m) := by
  refine ⟨?_, ?_, ?_⟩
  · show va_up (a_F α) (a_c α + 1) (a_F α (a_c α) + m) 0 = 0
    rw [up_ne (by omega)]; exact g.1
  · intro j hj
    have hj : j < a_c α + 1 := hj
    show va_up (a_F α) (a_c α + 1) (a_F α (a_c α) + m) (j + 1) = va_up (a_F α) (a_c α + 1) (a_F α (a_c α) + m) j + va_up (a_S α) (a_c α) m j ∧ 2 ≤ va_up (a_S α) (a_c α) m j
    rw [up_ne (show j ≠ a_c α + 1 by omega)]
    by_cases z : j = a_c α
    · subst z
      rw [up_at, up_at]
      omega
    · rw [up_ne (show j + 1 ≠ a_c α + 1 by omega), up_ne z]
      exact g.2.1 j (by omega)
  · show va_up (a_F α) (a_c α + 1) (a_F α (a_c α) + m) (a_c α + 1) ≤ 512
    rw [up_at]; exact hm
theorem M_take66 {β : AS} {μ : MS} (lim : Int32) (h : MR β μ) (g : GE β) {k s : Nat} (hk : k + 1 = a_c β) (hT : ¬ a_T β k = 0) (hs : s ≤ a_S β k) {post : Int32 → MS → Prop} (hp : ∀ μ', MR (cutT β k s) μ' → post (nI k) μ') : wM_take_66 lim μ (nI s) post := by
  unfold wM_take_66
  refine M_top lim h g (fun t ht _ => ?_) (fun hno => ?_)
  · have : t = k := by omega
    subst this
    refine M_cut lim h g (v := 4) (by omega) hs (by decide) (fun q μ' hm => hp μ' ?_) (fun q μ' hm => hp μ' ?_)
    · unfold cutT; rw [if_pos q]; exact hm
    · unfold cutT; rw [if_neg (by omega)]; exact hm
  · rcases hno with z | ⟨t, ht, z⟩
    · omega
    · have : t = k := by omega
      subst this; exact absurd z hT
theorem M_take {n : Nat} {α : AS} {μ : MS} (h : MR α μ) (w : WF n α) {s : Nat} (hs2 : 2 ≤ s) (hs : s < 1000) {post : Int32 → MS → Prop} (hp : ∀ k β μ', TK n α s k β → MR β μ' → post (nI k) μ') (hn : TN n α s → post (-1) μ) : wM_take (nI n) μ (nI s) post := by
  have g := w.ge
  have hc := g.c
  have hn5 := w.2.2.1
  have hE := g.2.2
  have fin : NoSt α s → wM_take_19 (nI n) μ (nI s) (-1) post := by
    intro hno
    refine ⟨fun _ => ?_, fun q => absurd (by decide) q⟩
    refine M_top _ h g (fun t ht hT => ?_) (fun hnt => ?_)
    · have t4 := w.top4 ht hT
      have hSt := g.sz (show t < a_c α by omega)
      refine ⟨fun _ => ⟨s_in (by omega) (by omega), ?_⟩, fun q => absurd (s_pos' (by omega)) q⟩
      unfold wM_take_45
      rw [s_cl (by omega), h.sz (by omega), s_le (by omega) (by omega)]
      refine ⟨fun q => ?_, fun q => ?_⟩
      · exact M_take66 _ h g ht hT q (fun μ' hm => hp t _ μ' (Or.inr (Or.inr ⟨hno, Or.inl ⟨ht, t4, q, rfl⟩⟩)) hm)
      · rw [s_sub (by omega)]
        have hup : s - a_S α t ≤ up16 (s - a_S α t) := by unfold up16; omega
        refine M_grow h g hn5 (by omega) (fun q2 t2 ht2 hT2 μ' hm => ?_) (fun q2 hnt μ' hm => ?_) (fun q2 => ?_)
        · have : t2 = t := by omega
          subst this
          refine ⟨fun _ => ?_, fun q3 => absurd q3 (by decide)⟩
          have g1 := g.growT ht (m := up16 (s - a_S α t2)) (by omega)
          refine M_take66 _ hm g1 (k := t2) ht hT (show s ≤ va_up (a_S α) t2 _ t2 by rw [up_at]; omega) (fun μ2 hm2 => hp t2 _ μ2 (Or.inr (Or.inr ⟨hno, Or.inr (Or.inl ⟨ht, t4, by omega, q2, rfl⟩)⟩)) hm2)
        · rcases hnt with z | ⟨t2, ht2, z⟩
          · omega
          · have : t2 = t := by omega
            subst this; exact absurd z hT
        · exact ⟨fun q3 => absurd rfl q3, fun _ => hn ⟨hno, Or.inl ⟨t, ht, t4, by omega, q2⟩⟩⟩
    · refine ⟨fun q => absurd q (by decide), fun _ => ?_⟩
      unfold wM_take_45
      have e0 : nI s - 0 = nI s := s_sub (b := 0) (by omega)
      rw [e0]
      have hup : s ≤ up16 s := by unfold up16; omega
      refine ⟨fun q => absurd ((s_le (b := 0) (by omega) (by omega)).mp q) (by omega), fun q => ?_⟩
      refine M_grow h g hn5 (by omega) (fun q2 t2 ht2 hT2 μ' hm => ?_) (fun q2 _ μ' hm => ?_) (fun q2 => ?_)
      · rcases hnt with z | ⟨t, ht, z⟩
        · omega
        · have : t2 = t := by omega
          subst this; exact absurd z hT2
      · refine ⟨fun _ => ?_, fun q3 => absurd q3 (by decide)⟩
        have g1 := g.grow0 (m := up16 s) (by omega) (by omega)
        refine M_take66 _ hm g1 (k := a_c α) rfl (by rw [show a_T (a_grow0 α (up16 s)) (a_c α) = 4 from up_at]; decide) (show s ≤ va_up (a_S α) (a_c α) (up16 s) (a_c α) by rw [up_at]; omega) (fun μ2 hm2 => hp _ _ μ2 (Or.inr (Or.inr ⟨hno, Or.inr (Or.inr ⟨hnt, q2, rfl, rfl⟩)⟩)) hm2)
      · exact ⟨fun q3 => absurd rfl q3, fun _ => hn ⟨hno, Or.inr ⟨hnt, q2⟩⟩⟩
  have got : ∀ (k : Nat) (μ' : MS), k < 100000 → post (nI k) μ' → wM_take_19 (nI n) μ' (nI s) (nI k) post := fun k μ' hk q => ⟨fun z => absurd z (s_pos hk), fun _ => q⟩
  have kS : ∀ k β, TS α s k β → k < 100000 := fun k β ht => by
    rcases ht with ⟨a, -⟩ | ⟨-, a, -⟩ | ⟨-, -, a, -⟩
    · have := a.1; omega
    · omega
    · have := a.1; omega
  have kL : ∀ k β, TL α s k β → k < 100000 := fun k β ht => by
    rcases ht with ⟨a, -⟩ | ⟨a, -⟩
    · have := a.1; omega
    · omega
  refine ⟨fun q => ?_, fun q => ?_⟩
  · have q := (s_le (a := 16) (by omega) (by omega)).mp q
    exact M_takeLarge _ h w q (by omega) (fun k β μ' ht hm => got k μ' (kL k β ht) (hp k β μ' (Or.inr (Or.inl ⟨q, ht⟩)) hm)) fin
  · have q : ¬ 16 ≤ s := fun z => q ((s_le (a := 16) (by omega) (by omega)).mpr z)
    exact M_takeSmall _ h w hs2 (by omega) (fun k β μ' ht hm => got k μ' (kS k β ht) (hp k β μ' (Or.inl ⟨by omega, ht⟩) hm)) fin
theorem TK_uniq {n : Nat} {α : AS} (w : WF n α) {s k1 k2 : Nat} {b1 b2 : AS} (h1 : TK n α s k1 b1) (h2 : TK n α s k2 b2) : k1 = k2 ∧ b1 = b2 := by
  rcases h1 with ⟨a, h1⟩ | ⟨a, h1⟩ | ⟨a, h1⟩ <;> rcases h2 with ⟨c, h2⟩ | ⟨c, h2⟩ | ⟨c, h2⟩
  · exact TS_uniq w h1 h2
  · omega
  · exact (TS_no a h1 c).elim
  · omega
  · exact TL_uniq w h1 h2
  · exact (TL_no h1 c).elim
  · exact (TS_no c h2 a).elim
  · exact (TL_no h2 a).elim
  · have nt : ∀ k, k + 1 = a_c α → a_T α k = 4 → ¬ noTop α := fun k e t z => by
      rcases z with z | ⟨t2, e2, z⟩
      · omega
      · have : t2 = k := by omega
        subst this; rw [t] at z; exact absurd z (by decide)
    rcases h1 with ⟨x1, x2, x3, rfl⟩ | ⟨x1, x2, x3, x4, rfl⟩ | ⟨x1, x2, rfl, rfl⟩ <;> rcases h2 with ⟨y1, y2, y3, rfl⟩ | ⟨y1, y2, y3, y4, rfl⟩ | ⟨y1, y2, rfl, rfl⟩
    · have : k1 = k2 := by omega
      subst this; exact ⟨rfl, rfl⟩
    · have : k1 = k2 := by omega
      subst this; omega
    · exact absurd y1 (nt _ x1 x2)
    · have : k1 = k2 := by omega
      subst this; omega
    · have : k1 = k2 := by omega
      subst this; exact ⟨rfl, rfl⟩
    · exact absurd y1 (nt _ x1 x2)
    · exact absurd x1 (nt _ y1 y2)
    · exact absurd x1 (nt _ y1 y2)
    · exact ⟨rfl, rfl⟩
theorem TK_no {n : Nat} {α : AS} {s k : Nat} {β : AS} (h : TK n α s k β) (hn : TN n α s) : False := by
  rcases h with ⟨a, h⟩ | ⟨a, h⟩ | ⟨a, h⟩
  · exact TS_no a h hn.1
  · exact TL_no h hn.1
  · have nt : ∀ k, k + 1 = a_c α → a_T α k = 4 → ¬ noTop α := fun k e t z => by
      rcases z with z | ⟨t2, e2, z⟩
      · omega
      · have : t2 = k := by omega
        subst this; rw [t] at z; exact absurd z (by decide)
    rcases h with ⟨x1, x2, x3, -⟩ | ⟨x1, x2, x3, x4, -⟩ | ⟨x1, x2, x3, -⟩ <;> rcases hn.2 with ⟨t, y1, y2, y3, y4⟩ | ⟨y1, y2⟩
    · have : k = t := by omega
      subst this; omega
    · exact absurd y1 (nt _ x1 x2)
    · have : k = t := by omega
      subst this; omega
    · exact absurd y1 (nt _ x1 x2)
    · exact absurd x1 (nt _ y1 y2)
    · omega
