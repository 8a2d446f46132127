theorem XC.up {n : Nat} {α : AS} {t z r t' z' r' : Nat → Int32} (h : XC n α t z r) (g : GE α) {k : Nat} (hk : k < a_c α) {v : Int32} {T' C' : Nat → Int32} {V' K' : Int32} {un' : Nat → Int32} (eT : T' = va_up (a_T α) k v) (eC : ∀ j, j ≠ k → C' j = a_C α j) (ht : t' (a_F α k) = v) (hz : z' (a_F α k) = nI (a_S α k)) (hr : (v = 1 ∨ v = 2) → r' (a_F α k) = C' k) (ot : ∀ a, a ≠ a_F α k → t' a = t a) (oz : ∀ a, a ≠ a_F α k → z' a = z a) (or : ∀ a, a ≠ a_F α k → r' a = r a) : XC n (a_c α, a_F α, a_S α, T', C', V', K', un') t' z' r' := by
  refine ⟨fun j hj => ?_, fun a ha hj => ?_⟩
  · have hj : j < a_c α := hj
    show t' (a_F α j) = T' j ∧ z' (a_F α j) = nI (a_S α j) ∧ ((T' j = 1 ∨ T' j = 2) → r' (a_F α j) = C' j)
    rw [eT]
    by_cases e : j = k
    · subst e
      rw [up_at]
      exact ⟨ht, hz, hr⟩
    · have ne : a_F α j ≠ a_F α k := fun z => e (g.inj (Nat.le_of_lt hj) (Nat.le_of_lt hk) z)
      rw [up_ne e, ot _ ne, oz _ ne, or _ ne, eC j e]
      exact h.1 j hj
  · have hj : ∀ j, j < a_c α → a_F α j ≠ a := hj
    rw [ot a (fun z => hj k hk z.symm)]
    exact h.2 a ha hj
theorem XC.part {n : Nat} {α : AS} {t z r t' z' r' : Nat → Int32} (h : XC n α t z r) (g : GE α) {k s : Nat} (hk : k < a_c α) (h2 : 2 ≤ s) (hs : s + 2 ≤ a_S α k) {v0 v : Int32} {T' C' : Nat → Int32} {V' K' : Int32} {un' : Nat → Int32} (eT : T' = a_ins (va_up (a_T α) k v0) k v) (eC1 : ∀ j, j ≤ k → C' j = a_C α j) (eC2 : ∀ j, k + 1 < j → C' j = a_C α (j - 1)) (ht0 : t' (a_F α k) = v0) (ht : t' (a_F α k + s) = v) (hz0 : z' (a_F α k) = nI s) (hz : z' (a_F α k + s) = nI (a_S α k - s)) (hv0 : ¬ (v0 = 1 ∨ v0 = 2)) (hr : (v = 1 ∨ v = 2) → r' (a_F α k + s) = C' (k + 1)) (ot : ∀ a, a ≠ a_F α k → a ≠ a_F α k + s → t' a = t a) (oz : ∀ a, a ≠ a_F α k → a ≠ a_F α k + s → z' a = z a) (or : ∀ a, a ≠ a_F α k → a ≠ a_F α k + s → r' a = r a) :
    XC n (a_c α + 1, a_ins (a_F α) k (a_F α k + s), va_up (a_ins (a_S α) k (a_S α k - s)) k s, T', C', V', K', un') t' z' r' := by
  have hF := g.2.1 k hk
  refine ⟨fun j hj => ?_, fun a ha hj => ?_⟩
  · have hj : j < a_c α + 1 := hj
    show t' (a_ins (a_F α) k (a_F α k + s) j) = T' j ∧ z' (a_ins (a_F α) k (a_F α k + s) j) = nI (va_up (a_ins (a_S α) k (a_S α k - s)) k s j) ∧ ((T' j = 1 ∨ T' j = 2) → r' (a_ins (a_F α) k (a_F α k + s) j) = C' j)
    rw [eT]
    rcases (show j < k ∨ j = k ∨ j = k + 1 ∨ k + 1 < j by omega) with q | q | q | q
    · have l := g.lt j k q (by omega)
      rw [a_ins_lo (by omega), a_ins_lo (by omega), up_ne (show j ≠ k by omega), up_ne (show j ≠ k by omega), a_ins_lo (by omega), ot _ (by omega) (by omega), oz _ (by omega) (by omega), or _ (by omega) (by omega), eC1 j (by omega)]
      exact h.1 j (by omega)
    · subst q
      rw [a_ins_lo (by omega), a_ins_lo (by omega), up_at, up_at, ht0]
      exact ⟨rfl, hz0, fun z => absurd z hv0⟩
    · subst q
      rw [a_ins_at, a_ins_at, up_ne (by omega), a_ins_at]
      exact ⟨ht, hz, hr⟩
    · have l := g.lt k (j - 1) (by omega) (by omega)
      rw [a_ins_hi (by omega), a_ins_hi (by omega), up_ne (show j - 1 ≠ k by omega), up_ne (show j ≠ k by omega), a_ins_hi (by omega), ot _ (by omega) (by omega), oz _ (by omega) (by omega), or _ (by omega) (by omega), eC2 j (by omega)]
      exact h.1 (j - 1) (by omega)
  · have hj : ∀ j, j < a_c α + 1 → a_ins (a_F α) k (a_F α k + s) j ≠ a := hj
    have n0 := hj k (by omega)
    rw [a_ins_lo (by omega)] at n0
    have n1 := hj (k + 1) (by omega)
    rw [a_ins_at] at n1
    rw [ot a (fun z => n0 z.symm) (fun z => n1 z.symm)]
    refine h.2 a ha (fun j hj2 => ?_)
    rcases (show j ≤ k ∨ k < j by omega) with q | q
    · have := hj j (by omega)
      rw [a_ins_lo q] at this
      exact this
    · have := hj (j + 1) (by omega)
      rw [a_ins_hi (by omega)] at this
      exact this
theorem XC.join {n : Nat} {α : AS} {t z r t' z' r' : Nat → Int32} (h : XC n α t z r) (g : GE α) {k : Nat} (hk : k + 1 < a_c α) {V' K' : Int32} {un' : Nat → Int32} (ht : t' (a_F α (k + 1)) = -1) (hz : z' (a_F α k) = nI (a_S α k + a_S α (k + 1))) (ot : ∀ a, a ≠ a_F α (k + 1) → t' a = t a) (oz : ∀ a, a ≠ a_F α k → a ≠ a_F α (k + 1) → z' a = z a) (or : ∀ a, a ≠ a_F α (k + 1) → r' a = r a) :
    XC n (a_c α - 1, a_del (a_F α) k, va_up (a_del (a_S α) k) k (a_S α k + a_S α (k + 1)), a_del (a_T α) k, a_del (a_C α) k, V', K', un') t' z' r' := by
  have l0 := g.lt k (k + 1) (by omega) (by omega)
  refine ⟨fun j hj => ?_, fun a ha hj => ?_⟩
  · have hj : j < a_c α - 1 := hj
    show t' (a_del (a_F α) k j) = a_del (a_T α) k j ∧ z' (a_del (a_F α) k j) = nI (va_up (a_del (a_S α) k) k (a_S α k + a_S α (k + 1)) j) ∧ ((a_del (a_T α) k j = 1 ∨ a_del (a_T α) k j = 2) → r' (a_del (a_F α) k j) = a_del (a_C α) k j)
    rcases (show j < k ∨ j = k ∨ k < j by omega) with q | q | q
    · have l := g.lt j k q (by omega)
      rw [a_del_lo (by omega), a_del_lo (by omega), a_del_lo (by omega), up_ne (by omega), a_del_lo (by omega), ot _ (by omega), oz _ (by omega) (by omega), or _ (by omega)]
      exact h.1 j (by omega)
    · subst q
      rw [a_del_lo (by omega), a_del_lo (by omega), a_del_lo (by omega), up_at, ot _ (by omega), or _ (by omega)]
      exact ⟨h.t (by omega), hz, h.r (by omega)⟩
    · have l := g.lt (k + 1) (j + 1) (by omega) (by omega)
      rw [a_del_hi q, a_del_hi q, a_del_hi q, up_ne (by omega), a_del_hi q, ot _ (by omega), oz _ (by omega) (by omega), or _ (by omega)]
      exact h.1 (j + 1) (by omega)
  · have hj : ∀ j, j < a_c α - 1 → a_del (a_F α) k j ≠ a := hj
    by_cases e : a = a_F α (k + 1)
    · subst e; exact ht
    · rw [ot a e]
      refine h.2 a ha (fun j hj2 => ?_)
      rcases (show j ≤ k ∨ j = k + 1 ∨ k + 1 < j by omega) with q | q | q
      · have := hj j (by omega)
        rw [a_del_lo q] at this
        exact this
      · subst q; exact fun z => e z.symm
      · have := hj (j - 1) (by omega)
        rw [a_del_hi (by omega), show j - 1 + 1 = j by omega] at this
        exact this
theorem up_ins {τ : Type} (f : Nat → τ) (k : Nat) (x y : τ) : va_up (a_ins f k x) (k + 1) y = a_ins f k y := by
  funext j
  by_cases e : j = k + 1
  · subst e; rw [up_at, a_ins_at]
  · rw [up_ne e]
    unfold a_ins
    rw [if_neg e, if_neg e]
theorem X_isChunkN {n : Nat} (lim : Int32) {σ : XS} {p e : Nat} (hp : p < 100000) (he : x_en σ = nI e) (hen : e ≤ n) (hn : n < 100000) {post : Int32 → XS → Prop} (h1 : p < e → ¬ x_t σ p = -1 → post 1 σ) (h2 : (e ≤ p ∨ x_t σ p = -1) → post 0 σ) : wX_isChunk n lim σ (nI p) post := by
  unfold wX_isChunk
  rw [he, s_le (by omega) hp, s_cl hp]
  exact ⟨fun q => absurd q (s_pos hp), fun _ => ⟨fun q => h2 (Or.inl q), fun q => ⟨s_in (by omega) hn, fun q2 => h2 (Or.inr q2), fun q2 => h1 (by omega) q2⟩⟩⟩
theorem X_isFreeN {n : Nat} (lim : Int32) {σ : XS} {p e : Nat} (hp : p < 100000) (he : x_en σ = nI e) (hen : e ≤ n) (hn : n < 100000) {post : Int32 → XS → Prop} (h1 : p < e → ¬ x_t σ p = -1 → ¬ x_t σ p = 0 → post 1 σ) (h2 : (e ≤ p ∨ x_t σ p = -1 ∨ x_t σ p = 0) → post 0 σ) : wX_isFree n lim σ (nI p) post := by
  unfold wX_isFree
  refine X_isChunkN lim hp he hen hn (fun a b => ?_) (fun a => ?_)
  · rw [s_cl hp]
    exact ⟨fun q => absurd q (by decide), fun _ => ⟨s_in (by omega) hn, fun q => h2 (Or.inr (Or.inr q)), fun q => h1 a b q⟩⟩
  · exact ⟨fun _ => h2 (a.elim Or.inl (fun z => Or.inr (Or.inl z))), fun q => absurd rfl q⟩
theorem X_isFreeM {n : Nat} (lim : Int32) {σ : XS} {post : Int32 → XS → Prop} (h : post 0 σ) : wX_isFree n lim σ (-1) post :=
  ⟨fun _ => ⟨fun _ => h, fun q => absurd rfl q⟩, fun q => absurd (by decide) q⟩
theorem X_sizeAtN {n : Nat} (lim : Int32) {σ : XS} {p : Nat} (hp : p < n) (hn : n < 100000) {post : Int32 → XS → Prop} (h : post (x_z σ p) σ) : wX_sizeAt n lim σ (nI p) post := by
  unfold wX_sizeAt
  rw [s_cl (by omega)]
  exact ⟨fun _ => ⟨s_in hp hn, h⟩, fun q => absurd q (s_m1 (by omega))⟩
theorem X_sizeAtM {n : Nat} (lim : Int32) {σ : XS} {post : Int32 → XS → Prop} (h : post 0 σ) : wX_sizeAt n lim σ (-1) post := ⟨fun q => absurd rfl q, fun _ => h⟩
theorem TO.ge {α : AS} {j : Nat} (h : TO α j) : ¬ a_T α j = -1 := by
  intro e
  rcases h with t | t | t | t | t
  · rw [e] at t; exact absurd t (by decide)
  · rw [e] at t; exact absurd t.1 (by decide)
  · rw [e] at t; exact absurd t.1 (by decide)
  · rw [e] at t; exact absurd t.1 (by decide)
  · rw [e] at t; exact absurd t.1 (by decide)
theorem X_chunkBefore {n : Nat} {α : AS} (lim : Int32) {σ : XS} (h : XC n α (x_t σ) (x_z σ) (x_r σ)) (g : GE α) (hE : a_F α (a_c α) ≤ n) (hn : n < 100000) {k : Nat} (hk : k < a_c α) (hT : 0 < k → ¬ a_T α (k - 1) = -1) {post : Int32 → XS → Prop} (h0 : k = 0 → post (-1) σ) (h1 : 0 < k → post (nI (a_F α (k - 1))) σ) : wX_chunkBefore n lim σ (nI (a_F α k)) post := by
  have hl := g.le (Nat.le_of_lt hk)
  have lE := g.lt k (a_c α) hk (Nat.le_refl _)
  rcases Nat.eq_zero_or_pos k with z | z
  · subst z
    refine ⟨1, ?_⟩
    rw [g.1]
    exact ⟨fun _ => h0 rfl, fun q => absurd (by decide) q⟩
  · have hF := g.2.1 (k - 1) (by omega)
    rw [show k - 1 + 1 = k by omega] at hF
    have key : ∀ f a, a_F α (k - 1) ≤ a → a < a_F α k → a < a_F α (k - 1) + f → wX_chunkBefore_4 n lim post f σ (nI a) := by
      intro f
      induction f with
      | zero => intro a x1 x2; omega
      | succ f ih =>
        intro a x1 x2 x3
        show wX_chunkBefore_4_s n lim post (wX_chunkBefore_4 n lim post f) σ (nI a)
        unfold wX_chunkBefore_4_s
        rw [s_cl (by omega)]
        refine ⟨fun q => absurd q (s_pos (by omega)), fun _ => ⟨s_in (by omega) hn, fun q => ?_, fun q => ?_⟩⟩
        · by_cases e : a = a_F α (k - 1)
          · subst e
            rw [h.t (by omega)] at q
            exact absurd q (hT z)
          · rw [s_d1 (by omega)]
            exact ih (a - 1) (by omega) (by omega) (by omega)
        · by_cases e : a = a_F α (k - 1)
          · subst e; exact h1 z
          · refine absurd (h.2 a (by omega) (fun j hj e2 => ?_)) q
            rcases (show j < k - 1 ∨ j = k - 1 ∨ k ≤ j by omega) with y | y | y
            · have := g.lt j (k - 1) y (by omega); omega
            · subst y; omega
            · rcases Nat.lt_or_ge k j with y2 | y2
              · have := g.lt k j y2 (by omega); omega
              · have : j = k := by omega
                subst this; omega
    refine ⟨a_F α k + 1, ?_⟩
    rw [s_m _ (by omega)]
    exact key _ (a_F α k - 1) (by omega) (by omega) (by omega)
