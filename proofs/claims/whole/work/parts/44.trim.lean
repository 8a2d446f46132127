theorem kp_eq (v : Int32) : (if v < 0 then 0 else v) = nI v.toNatClampNeg ∧ v.toNatClampNeg < 2 ^ 31 := by
  by_cases q : v < 0
  · rw [if_pos q]
    have : v.toNatClampNeg = 0 := by
      have h : v.toInt < 0 := by
        have := Int32.lt_iff_toInt_lt.mp q
        rw [show (0 : Int32).toInt = 0 from by decide] at this
        exact this
      show v.toInt.toNat = 0
      omega
    rw [this]
    exact ⟨rfl, by decide⟩
  · rw [if_neg q]
    obtain ⟨j, hj, rfl⟩ := nI_of q
    rw [nI_clamp hj]
    exact ⟨rfl, hj⟩
theorem lt_kp {d : Nat} (hd : d < 2 ^ 31) (v : Int32) : nI d < v ↔ d < v.toNatClampNeg := by
  by_cases q : v < 0
  · have e := (kp_eq v).1
    rw [if_pos q] at e
    constructor
    · intro h
      exact absurd (Int32.lt_trans h q) (nI_pos hd)
    · intro h
      have : v.toNatClampNeg = 0 := by
        have := (nI_eq (a := 0) (by decide) (kp_eq v).2).mp e
        exact this.symm
      omega
  · obtain ⟨j, hj, rfl⟩ := nI_of q
    rw [nI_clamp hj]
    exact nI_ltI hd hj
theorem sub_toInt {a b : Nat} (ha : a < 100000) (hb : b < 2 ^ 31) : (nI a - nI b).toInt = (a : Int) - b := by
  rw [Int32.toInt_sub, nI_toInt (by omega), nI_toInt (by omega)]
  exact Int.bmod_eq_of_le (by omega) (by omega)
def trL (S kp : Nat) : Nat := if S - (S - kp) / 16 * 16 = 1 then (S - kp) / 16 * 16 - 16 else (S - kp) / 16 * 16
theorem trL_le (S kp : Nat) : trL S kp ≤ S := by unfold trL; split <;> omega
theorem trL_ne (S kp : Nat) (h : 2 ≤ S) : trL S kp = S ∨ trL S kp + 2 ≤ S := by
  unfold trL
  by_cases q : S - (S - kp) / 16 * 16 = 1
  · rw [if_pos q]; omega
  · rw [if_neg q]; omega
def aTrim (α : AS) (t L : Nat) : AS := if a_S α t = L then (a_c α - 1, a_F α, a_S α, a_T α, a_C α, a_V α, a_K α, a_un α) else (a_c α, va_up (a_F α) (a_c α) (a_F α (a_c α) - L), va_up (a_S α) t (a_S α t - L), a_T α, a_C α, a_V α, a_K α, a_un α)
theorem aTrim_0 (α : AS) {t : Nat} (h : 0 < a_S α t) : aTrim α t 0 = α := by
  unfold aTrim
  rw [if_neg (by omega)]
  have e1 : va_up (a_F α) (a_c α) (a_F α (a_c α) - 0) = a_F α := funext fun j => by
    by_cases e : j = a_c α
    · subst e; rw [up_at]; rfl
    · rw [up_ne e]
  have e2 : va_up (a_S α) t (a_S α t - 0) = a_S α := funext fun j => by
    by_cases e : j = t
    · subst e; rw [up_at]; rfl
    · rw [up_ne e]
  rw [e1, e2]
  rfl
theorem WF.trim {n : Nat} {α : AS} (w : WF n α) {t L : Nat} (ht : t + 1 = a_c α) (h4 : a_T α t = 4) (hL : a_S α t = L ∨ L + 2 ≤ a_S α t) : WF n (aTrim α t L) := by
  have g := w.ge
  have hF := g.2.1 t (by omega)
  rw [ht] at hF
  have hE := w.2.1
  have hE5 := g.2.2
  unfold aTrim
  by_cases q : a_S α t = L
  · rw [if_pos q]
    have pv : ∀ j, j + 1 = t → a_T α j = 0 := fun j hj => by
      rcases w.2.2.2.2.1 j (by omega) with z | z
      · exact z
      · rw [hj, h4] at z; exact absurd z (by decide)
    have et : a_c α - 1 = t := by omega
    refine ⟨⟨g.1, fun j hj => g.2.1 j (by have hj : j < a_c α - 1 := hj; omega), ?_⟩, ?_, w.2.2.1, fun j hj => ?_, fun j hj => w.2.2.2.2.1 j (by have hj : j + 1 < a_c α - 1 := hj; omega), ?_⟩
    · show a_F α (a_c α - 1) ≤ 512
      rw [et]; omega
    · show a_F α (a_c α - 1) ≤ n
      rw [et]; omega
    · have hj : j < a_c α - 1 := hj
      have z := w.to (show j < a_c α by omega)
      unfold TO at z ⊢
      show a_T α j = 0 ∨ (a_T α j = 1 ∧ a_S α j < 16 ∧ j + 1 ≠ a_c α - 1) ∨ (a_T α j = 2 ∧ 16 ≤ a_S α j ∧ j + 1 ≠ a_c α - 1) ∨ (a_T α j = 3 ∧ a_V α = nI (a_F α j) ∧ j + 1 ≠ a_c α - 1) ∨ (a_T α j = 4 ∧ j + 1 = a_c α - 1)
      by_cases e : j + 1 = t
      · exact Or.inl (pv j e)
      · rcases z with z | z | z | z | z
        · exact Or.inl z
        · exact Or.inr (Or.inl ⟨z.1, z.2.1, by omega⟩)
        · exact Or.inr (Or.inr (Or.inl ⟨z.1, z.2.1, by omega⟩))
        · exact Or.inr (Or.inr (Or.inr (Or.inl ⟨z.1, z.2.1, by omega⟩)))
        · omega
    · rcases w.2.2.2.2.2 with z | ⟨j, hj, z1, z2⟩
      · exact Or.inl z
      · refine Or.inr ⟨j, show j < a_c α - 1 from ?_, z1, z2⟩
        have : j ≠ t := fun e => by rw [e, h4] at z2; exact absurd z2 (by decide)
        omega
  · rw [if_neg q]
    have hL2 : L + 2 ≤ a_S α t := hL.elim (fun z => absurd z q) id
    refine ⟨⟨?_, fun j hj => ?_, ?_⟩, ?_, w.2.2.1, fun j hj => ?_, w.2.2.2.2.1, ?_⟩
    · show va_up (a_F α) (a_c α) (a_F α (a_c α) - L) 0 = 0
      rw [up_ne (by omega)]; exact g.1
    · have hj : j < a_c α := hj
      show va_up (a_F α) (a_c α) (a_F α (a_c α) - L) (j + 1) = va_up (a_F α) (a_c α) (a_F α (a_c α) - L) j + va_up (a_S α) t (a_S α t - L) j ∧ 2 ≤ va_up (a_S α) t (a_S α t - L) j
      rw [up_ne (show j ≠ a_c α by omega)]
      by_cases e : j = t
      · subst e
        rw [ht, up_at, up_at]
        omega
      · rw [up_ne (by omega), up_ne e]
        exact g.2.1 j hj
    · show va_up (a_F α) (a_c α) (a_F α (a_c α) - L) (a_c α) ≤ 512
      rw [up_at]; omega
    · show va_up (a_F α) (a_c α) (a_F α (a_c α) - L) (a_c α) ≤ n
      rw [up_at]; omega
    · have hj : j < a_c α := hj
      by_cases e : j = t
      · subst e; exact Or.inr (Or.inr (Or.inr (Or.inr ⟨h4, ht⟩)))
      · have z := w.to hj
        unfold TO at z ⊢
        show a_T α j = 0 ∨ (a_T α j = 1 ∧ va_up (a_S α) t (a_S α t - L) j < 16 ∧ j + 1 ≠ a_c α) ∨ (a_T α j = 2 ∧ 16 ≤ va_up (a_S α) t (a_S α t - L) j ∧ j + 1 ≠ a_c α) ∨ (a_T α j = 3 ∧ a_V α = nI (va_up (a_F α) (a_c α) (a_F α (a_c α) - L) j) ∧ j + 1 ≠ a_c α) ∨ (a_T α j = 4 ∧ j + 1 = a_c α)
        rw [up_ne e, up_ne (by omega)]
        exact z
    · rcases w.2.2.2.2.2 with z | ⟨j, hj, z1, z2⟩
      · exact Or.inl z
      · refine Or.inr ⟨j, hj, ?_, z2⟩
        show a_V α = nI (va_up (a_F α) (a_c α) (a_F α (a_c α) - L) j)
        rw [up_ne (by omega)]; exact z1
theorem X_shrinkTop {n : Nat} {α : AS} (lim : Int32) {σ : XS} (h : XR n α σ) (w : WF n α) {t L : Nat} (ht : t + 1 = a_c α) (h4 : a_T α t = 4) (hL : a_S α t = L ∨ L + 2 ≤ a_S α t) {post : XS → Prop} (hp : ∀ σ', XR n (aTrim α t L) σ' → post σ') : wX_shrinkTop n lim σ (nI L) post := by
  have g := w.ge
  have hE := w.2.1
  have hn := w.2.2.1
  have hc := g.c
  have htc : t < a_c α := by omega
  have l := g.lt t (a_c α) htc (Nat.le_refl _)
  have hF := g.2.1 t htc
  rw [ht] at hF
  have hS := g.sz htc
  have etp := h.2.2.2.2.1 t ht (by rw [h4]; decide)
  have vk := (w.t4 htc h4).2
  unfold wX_shrinkTop
  rw [etp]
  refine X_lift lim (by omega) (by omega) ?_
  rw [h.1.z htc, s_sub (show L ≤ a_S α t by omega), show x_en (xLift σ (a_F α t)) = nI (a_F α (a_c α)) from h.2.1, s_sub (show L ≤ a_F α (a_c α) by omega)]
  obtain ⟨u, z, tt, r, la, en, vi, tp⟩ := σ
  have etp : tp = nI (a_F α t) := etp
  have pv : ∀ j, j + 1 = t → a_T α j = 0 := fun j hj => by
    rcases w.2.2.2.2.1 j (by omega) with z | z
    · exact z
    · rw [hj, h4] at z; exact absurd z (by decide)
  have fv : (if nI (a_F α t) = vi then -1 else vi) = a_V α := by
    rw [show vi = a_V α from h.2.2.1, if_neg vk]
  unfold aTrim at hp
  refine ⟨fun q => hp _ ?_, fun q => ?_⟩
  · have q := (s_le (b := 0) (by omega) (by omega)).mp q
    have e : a_S α t = L := by omega
    have et : a_c α - 1 = t := by omega
    rw [if_pos e]
    refine ⟨⟨fun j hj => ?_, fun a ha hj => ?_⟩, ?_, fv, h.2.2.2.1, fun k hk hT => ?_, fun _ => ?_, fun a ha => ?_⟩
    · have hj : j < a_c α - 1 := hj
      have lj := g.lt j t (by omega) (by omega)
      show upd tt (a_F α t) (-1) (a_F α j) = a_T α j ∧ upd z (a_F α t) 0 (a_F α j) = nI (a_S α j) ∧ ((a_T α j = 1 ∨ a_T α j = 2) → r (a_F α j) = a_C α j)
      rw [ud_ne (by omega), ud_ne (by omega)]
      exact h.1.1 j (by omega)
    · have hj : ∀ j, j < a_c α - 1 → a_F α j ≠ a := hj
      show upd tt (a_F α t) (-1) a = -1
      by_cases e2 : a = a_F α t
      · subst e2; exact ud_at
      · rw [ud_ne e2]
        refine h.1.2 a ha (fun j hj2 => ?_)
        rcases (show j < a_c α - 1 ∨ j = t by omega) with y | y
        · exact hj j y
        · subst y; exact fun z => e2 z.symm
    · show nI (a_F α (a_c α) - L) = nI (a_F α (a_c α - 1))
      rw [et]
      congr 1
      omega
    · have hk : k + 1 = a_c α - 1 := hk
      exact absurd (pv k (by omega)) hT
    · show (if nI (a_F α t) = tp then -1 else tp) = -1
      rw [if_pos etp.symm]
    · have ha : a < a_F α (a_c α - 1) := ha
      rw [et] at ha
      exact h.2.2.2.2.2.2 a (by omega)
  · have q : ¬ a_S α t - L ≤ 0 := fun z => q ((s_le (b := 0) (by omega) (by omega)).mpr z)
    have e : ¬ a_S α t = L := by omega
    rw [if_neg e] at hp
    refine X_lay lim 4 (by omega) (by omega) (by omega) (by decide) (hp _ ?_)
    refine ⟨⟨fun j hj => ?_, fun a ha hj => ?_⟩, ?_, fv, h.2.2.2.1, fun k hk hT => ?_, fun hno => ?_, fun a ha => ?_⟩
    · have hj : j < a_c α := hj
      show upd (upd tt (a_F α t) (-1)) (a_F α t) 4 (va_up (a_F α) (a_c α) (a_F α (a_c α) - L) j) = a_T α j ∧ upd (upd z (a_F α t) 0) (a_F α t) (nI (a_S α t - L)) (va_up (a_F α) (a_c α) (a_F α (a_c α) - L) j) = nI (va_up (a_S α) t (a_S α t - L) j) ∧ ((a_T α j = 1 ∨ a_T α j = 2) → r (va_up (a_F α) (a_c α) (a_F α (a_c α) - L) j) = a_C α j)
      rw [up_ne (show j ≠ a_c α by omega), ud_ud, ud_ud]
      by_cases e2 : j = t
      · subst e2
        rw [ud_at, ud_at, up_at, h4]
        exact ⟨rfl, rfl, fun y => absurd y (by decide)⟩
      · have ne : a_F α j ≠ a_F α t := fun y => e2 (g.inj (by omega) (by omega) y)
        rw [ud_ne ne, ud_ne ne, up_ne e2]
        exact h.1.1 j hj
    · have hj : ∀ j, j < a_c α → va_up (a_F α) (a_c α) (a_F α (a_c α) - L) j ≠ a := hj
      have hj2 : ∀ j, j < a_c α → a_F α j ≠ a := fun j y => by
        have := hj j y
        rw [up_ne (by omega)] at this
        exact this
      show upd (upd tt (a_F α t) (-1)) (a_F α t) 4 a = -1
      rw [ud_ne (fun y => hj2 t htc y.symm), ud_ne (fun y => hj2 t htc y.symm)]
      exact h.1.2 a ha hj2
    · show nI (a_F α (a_c α) - L) = nI (va_up (a_F α) (a_c α) (a_F α (a_c α) - L) (a_c α))
      rw [up_at]
    · have hk : k + 1 = a_c α := hk
      have : k = t := by omega
      subst this
      show nI (a_F α k) = nI (va_up (a_F α) (a_c α) (a_F α (a_c α) - L) k)
      rw [up_ne (by omega)]
    · rcases hno with y | ⟨k, hk, y⟩
      · have y : a_c α = 0 := y
        omega
      · have hk : k + 1 = a_c α := hk
        have : k = t := by omega
        subst this
        have y : a_T α k = 0 := y
        rw [h4] at y; exact absurd y (by decide)
    · have ha : a < va_up (a_F α) (a_c α) (a_F α (a_c α) - L) (a_c α) := ha
      rw [up_at] at ha
      exact h.2.2.2.2.2.2 a (by omega)
theorem X_trim {n : Nat} {α : AS} (lim : Int32) {σ : XS} (h : XR n α σ) (w : WF n α) (v : Int32) {post : Int32 → XS → Prop} (h0 : noTop α → post 0 σ) (h1 : ∀ t, t + 1 = a_c α → a_T α t = 4 → ∀ σ', XR n (aTrim α t (trL (a_S α t) v.toNatClampNeg)) σ' → post (nI (trL (a_S α t) v.toNatClampNeg)) σ') : wX_trim n lim σ v post := by
  have g := w.ge
  have hc := g.c
  obtain ⟨ek, lk⟩ := kp_eq v
  unfold wX_trim
  rw [ek]
  generalize v.toNatClampNeg = kp at lk h1
  have lt16 : ∀ S : Nat, S < 1000 → (16 ≤ nI S - nI kp ↔ kp + 16 ≤ S) := fun S hS => by
    rw [Int32.le_iff_toInt_le, sub_toInt (by omega) lk, show (16 : Int32).toInt = 16 from by decide]
    omega
  refine X_topz lim h w (fun hno => ⟨fun q => ?_, fun _ => h0 hno⟩) (fun t ht h4 => ?_)
  · have := (lt16 0 (by omega)).mp q
    omega
  · have hS := g.sz (show t < a_c α by omega)
    have hS2 := g.2.1 t (by omega)
    rw [lt16 _ (by omega)]
    refine ⟨fun q => ?_, fun q => ?_⟩
    · have e1 : nI (a_S α t) - nI kp = nI (a_S α t - kp) := s_sub (by omega)
      have e2 : nI (a_S α t - kp) - (nI (a_S α t - kp) - nI (a_S α t - kp) / 16 * 16) = nI ((a_S α t - kp) / 16 * 16) := by
        rw [show (16 : Int32) = nI 16 from rfl, pk_rem (by omega) (by omega) (by omega), s_sub (by omega)]
        congr 1
        omega
      rw [e1, e2, s_sub (by omega)]
      have lem := trL_ne (a_S α t) kp (by omega)
      refine ⟨fun q2 => ?_, fun q2 => ?_⟩
      · have q2 : ¬ a_S α t - (a_S α t - kp) / 16 * 16 = 1 := fun z => q2 ((s_eq (b := 1) (by omega) (by omega)).mpr z)
        have e3 : trL (a_S α t) kp = (a_S α t - kp) / 16 * 16 := by unfold trL; rw [if_neg q2]
        rw [← e3]
        unfold wX_trim_44
        exact X_shrinkTop lim h w ht h4 (lem.elim (fun z => Or.inl z.symm) Or.inr) (fun σ' hx => h1 t ht h4 σ' hx)
      · have q2 := (s_eq (b := 1) (by omega) (by omega)).mp q2
        have e3 : trL (a_S α t) kp = (a_S α t - kp) / 16 * 16 - 16 := by unfold trL; rw [if_pos q2]
        have e4 : nI ((a_S α t - kp) / 16 * 16) + (-16) = nI (trL (a_S α t) kp) := by
          rw [e3, ← s_sub (b := 16) (by omega), Int32.sub_eq_add_neg, show (-16 : Int32) = -nI 16 from by decide]
        rw [e4]
        unfold wX_trim_44
        exact X_shrinkTop lim h w ht h4 (lem.elim (fun z => Or.inl z.symm) Or.inr) (fun σ' hx => h1 t ht h4 σ' hx)
    · have e3 : trL (a_S α t) kp = 0 := by
        unfold trL
        have : (a_S α t - kp) / 16 * 16 = 0 := by omega
        rw [this, if_neg (by omega)]
      have r := h1 t ht h4 σ
      rw [e3, aTrim_0 α (by omega)] at r
      exact r h
theorem M_trim {n : Nat} {α : AS} {μ : MS} (lim : Int32) (h : MR α μ) (w : WF n α) (v : Int32) {post : Int32 → MS → Prop} (h0 : noTop α → post 0 μ) (h1 : ∀ t, t + 1 = a_c α → a_T α t = 4 → ∀ μ', MR (aTrim α t (trL (a_S α t) v.toNatClampNeg)) μ' → post (nI (trL (a_S α t) v.toNatClampNeg)) μ') : wM_trim lim μ v post := by
  have g := w.ge
  have hc := g.c
  have hE := g.2.2
  unfold wM_trim
  refine M_top lim h g (fun t ht hT => ?_) (fun hno => ⟨fun q => absurd q (by decide), fun _ => h0 hno⟩)
  have h4 := w.top4 ht hT
  have htc : t < a_c α := by omega
  have hS := g.sz htc
  have hS2 := g.2.1 t htc
  rw [ht] at hS2
  have it : vp_in (nI t) 258 := s_in (by omega) (by omega)
  have fin := h1 t ht h4
  have lem := trL_ne (a_S α t) v.toNatClampNeg (by omega)
  have lle := trL_le (a_S α t) v.toNatClampNeg
  refine ⟨fun _ => ⟨it, ?_⟩, fun q => absurd (s_pos' (by omega)) q⟩
  have p60 : wM_trim_60 lim μ (nI t) (nI (trL (a_S α t) v.toNatClampNeg)) post := by
    generalize trL (a_S α t) v.toNatClampNeg = L at fin lem lle
    obtain ⟨un, fi, sz, us, ca, en, ch, cl, vi⟩ := μ
    unfold wM_trim_60
    rw [s_cl (show t < 100000 by omega), show m_en (un, fi, sz, us, ca, en, ch, cl, vi) = nI (a_F α (a_c α)) from h.en, s_sub (show L ≤ a_F α (a_c α) by omega)]
    have ez : m_sz (m_sen (un, fi, sz, us, ca, en, ch, cl, vi) (nI (a_F α (a_c α) - L))) t - nI L = nI (a_S α t - L) := by
      rw [show m_sz (m_sen (un, fi, sz, us, ca, en, ch, cl, vi) (nI (a_F α (a_c α) - L))) t = nI (a_S α t) from h.sz htc, s_sub lle]
    rw [ez]
    have ez2 : m_sz (m_ssz (m_sen (un, fi, sz, us, ca, en, ch, cl, vi) (nI (a_F α (a_c α) - L))) (upd (m_sz (m_sen (un, fi, sz, us, ca, en, ch, cl, vi) (nI (a_F α (a_c α) - L)))) t (nI (a_S α t - L)))) t = nI (a_S α t - L) := ud_at
    rw [ez2]
    unfold aTrim at fin
    refine ⟨it, it, it, fun q => fin _ ?_, fun q => fin _ ?_⟩
    · have q : ¬ a_S α t - L = 0 := fun z => q ((s_eq (b := 0) (by omega) (by omega)).mpr z)
      rw [if_neg (by omega)]
      refine ⟨h.1, ?_, h.2.2.1, h.2.2.2.1, h.2.2.2.2.1, fun j hj => ?_⟩
      · show nI (a_F α (a_c α) - L) = nI (va_up (a_F α) (a_c α) (a_F α (a_c α) - L) (a_c α))
        rw [up_at]
      · have hj : j < a_c α := hj
        show fi j = nI (va_up (a_F α) (a_c α) (a_F α (a_c α) - L) j) ∧ upd sz t (nI (a_S α t - L)) j = nI (va_up (a_S α) t (a_S α t - L) j) ∧ us j = (if a_T α j = 0 then 1 else 0) ∧ ((a_T α j = 1 ∨ a_T α j = 2) → ca j = a_C α j)
        rw [up_ne (by omega)]
        by_cases e : j = t
        · subst e
          rw [ud_at, up_at]
          exact ⟨h.fi hj, rfl, h.us hj, h.ca hj⟩
        · rw [ud_ne e, up_ne e]
          exact ⟨h.fi hj, h.sz hj, h.us hj, h.ca hj⟩
    · have q := (s_eq (b := 0) (by omega) (by omega)).mp q
      rw [if_pos (by omega)]
      refine ⟨?_, ?_, h.2.2.1, h.2.2.2.1, h.2.2.2.2.1, fun j hj => ?_⟩
      · show ch - 1 = nI (a_c α - 1)
        rw [show ch = nI (a_c α) from h.1, s_m _ (by omega)]
      · show nI (a_F α (a_c α) - L) = nI (a_F α (a_c α - 1))
        rw [show a_c α - 1 = t by omega]
        congr 1
        omega
      · have hj : j < a_c α - 1 := hj
        show fi j = nI (a_F α j) ∧ upd sz t (nI (a_S α t - L)) j = nI (a_S α j) ∧ us j = (if a_T α j = 0 then 1 else 0) ∧ ((a_T α j = 1 ∨ a_T α j = 2) → ca j = a_C α j)
        rw [ud_ne (by omega)]
        exact ⟨h.fi (by omega), h.sz (by omega), h.us (by omega), h.ca (by omega)⟩
  have key : ∀ f q, trL (a_S α t) v.toNatClampNeg ≤ 16 * q → 16 * q ≤ a_S α t → 16 * q < trL (a_S α t) v.toNatClampNeg + f → wM_trim_24 lim post f μ v (nI t) (nI (16 * q)) := by
    intro f
    induction f with
    | zero => intro q x1 x2 x3; omega
    | succ f ih =>
      intro q x1 x2 x3
      show wM_trim_24_s lim post (wM_trim_24 lim post f) μ v (nI t) (nI (16 * q))
      unfold wM_trim_24_s
      rw [s_cl (show t < 100000 by omega), h.sz htc, s_sub x2, lt_kp (by omega)]
      have down : 16 * q ≠ trL (a_S α t) v.toNatClampNeg → 0 < q → wM_trim_24 lim post f μ v (nI t) (nI (16 * q) - 16) := fun y y2 => by
        have e : nI (16 * q) - 16 = nI (16 * (q - 1)) := by
          rw [show (16 : Int32) = nI 16 from rfl, s_sub (by omega)]
          congr 1
          omega
        rw [e]
        refine ih (q - 1) ?_ (by omega) (by omega)
        unfold trL at x1 y ⊢
        split at x1 <;> split at y <;> split <;> omega
      by_cases y : 16 * q = trL (a_S α t) v.toNatClampNeg
      · rw [y]
        have good : 0 < trL (a_S α t) v.toNatClampNeg → ¬ a_S α t - trL (a_S α t) v.toNatClampNeg < v.toNatClampNeg ∧ ¬ a_S α t - trL (a_S α t) v.toNatClampNeg = 1 := by
          intro hp
          unfold trL at hp ⊢
          split at hp
          · rename_i e; rw [if_pos e]; omega
          · rename_i e; rw [if_neg e]; omega
        refine ⟨fun _ => p60, fun z => ?_⟩
        have z : 0 < trL (a_S α t) v.toNatClampNeg := by
          rcases Nat.eq_zero_or_pos (trL (a_S α t) v.toNatClampNeg) with e | e
          · rw [e] at z; exact absurd (by decide) z
          · exact e
        have gd := good z
        exact ⟨it, fun u => absurd u gd.1, fun _ => ⟨it, fun _ => p60, fun u => absurd ((s_eq (b := 1) (by omega) (by omega)).mp u) gd.2⟩⟩
      · have q0 : 0 < q := by omega
        have bad : a_S α t - 16 * q < v.toNatClampNeg ∨ a_S α t - 16 * q = 1 := by
          unfold trL at x1 y
          split at x1 <;> split at y <;> omega
        refine ⟨fun z => absurd ((s_le (b := 0) (by omega) (by omega)).mp z) (by omega), fun _ => ⟨it, fun _ => down y q0, fun u => ⟨it, fun u2 => ?_, fun _ => down y q0⟩⟩⟩
        rcases bad with b | b
        · exact absurd b u
        · exact absurd ((s_eq (b := 1) (by omega) (by omega)).mpr b) u2
  refine ⟨a_S α t + 1, ?_⟩
  have e : m_sz μ (nI t).toNatClampNeg / 16 * 16 = nI (16 * (a_S α t / 16)) := by
    rw [s_cl (by omega), h.sz htc, show (16 : Int32) = nI 16 from rfl, pk_div (by omega) (by omega) (by omega), pk_mul]
    congr 1
    omega
  rw [e]
  refine key _ (a_S α t / 16) ?_ (by omega) (by omega)
  unfold trL
  split <;> omega
theorem sim_trim {n k : Nat} {σ : XS} {μ : MS} (a : Int32) (hr : Rel n k σ μ) : wX_trim n (nI n) σ a (fun r σ1 => wM_trim (nI n) μ a (fun r1 μ1 => r = r1 ∧ Rel n (k + 1) σ1 μ1)) := by
  obtain ⟨h16, α, w, hm, hx⟩ := hr
  refine X_trim _ hx w a (fun hno => M_trim _ hm w a (fun _ => ⟨rfl, h16, α, w, hm, hx⟩) (fun t ht h4 => ?_)) (fun t ht h4 σ' hx2 => M_trim _ hm w a (fun hno => ?_) (fun t2 ht2 h42 μ' hm2 => ?_))
  · rcases hno with z | ⟨t2, ht2, z⟩
    · omega
    · have : t2 = t := by omega
      subst this; rw [h4] at z; exact absurd z (by decide)
  · rcases hno with z | ⟨t2, ht2, z⟩
    · omega
    · have : t2 = t := by omega
      subst this; rw [h4] at z; exact absurd z (by decide)
  · have : t2 = t := by omega
    subst this
    have hS2 := w.ge.2.1 t2 (by omega)
    exact ⟨rfl, h16, _, w.trim ht h4 ((trL_ne _ _ hS2.2).elim (fun z => Or.inl z.symm) Or.inr), hm2, hx2⟩
