def a_ins {τ : Type} (f : Nat → τ) (k : Nat) (v : τ) : Nat → τ := fun j => if j ≤ k then f j else if j = k + 1 then v else f (j - 1)
def a_del {τ : Type} (f : Nat → τ) (k : Nat) : Nat → τ := fun j => if j ≤ k then f j else f (j + 1)
theorem a_ins_lo {τ : Type} {f : Nat → τ} {k j : Nat} {v : τ} (h : j ≤ k) : a_ins f k v j = f j := if_pos h
theorem a_ins_at {τ : Type} {f : Nat → τ} {k : Nat} {v : τ} : a_ins f k v (k + 1) = v := by unfold a_ins; rw [if_neg (by omega), if_pos rfl]
theorem a_ins_hi {τ : Type} {f : Nat → τ} {k j : Nat} {v : τ} (h : k + 1 < j) : a_ins f k v j = f (j - 1) := by unfold a_ins; rw [if_neg (by omega), if_neg (by omega)]
theorem a_del_lo {τ : Type} {f : Nat → τ} {k j : Nat} (h : j ≤ k) : a_del f k j = f j := if_pos h
theorem a_del_hi {τ : Type} {f : Nat → τ} {k j : Nat} (h : k < j) : a_del f k j = f (j + 1) := if_neg (by omega)
theorem up_at {τ : Type} {f : Nat → τ} {k : Nat} {v : τ} : va_up f k v k = v := if_pos rfl
theorem up_ne {τ : Type} {f : Nat → τ} {k j : Nat} {v : τ} (h : j ≠ k) : va_up f k v j = f j := if_neg h
theorem ud_at {f : Nat → Int32} {k : Nat} {v : Int32} : upd f k v k = v := if_pos rfl
theorem ud_ne {f : Nat → Int32} {k j : Nat} {v : Int32} (h : j ≠ k) : upd f k v j = f j := if_neg h
def a_part (α : AS) (k s : Nat) (v : Int32) : AS := (a_c α + 1, a_ins (a_F α) k (a_F α k + s), va_up (a_ins (a_S α) k (a_S α k - s)) k s, a_ins (a_T α) k v, a_ins (a_C α) k 0, a_V α, a_K α, a_un α)
def a_join (α : AS) (k : Nat) : AS := (a_c α - 1, a_del (a_F α) k, va_up (a_del (a_S α) k) k (a_S α k + a_S α (k + 1)), a_del (a_T α) k, a_del (a_C α) k, a_V α, a_K α, a_un α)
def a_sT (α : AS) (k : Nat) (v : Int32) : AS := (a_c α, a_F α, a_S α, va_up (a_T α) k v, a_C α, a_V α, a_K α, a_un α)
def a_sV (α : AS) (v : Int32) : AS := (a_c α, a_F α, a_S α, a_T α, a_C α, v, a_K α, a_un α)
def a_stor (α : AS) (k : Nat) : AS := (a_c α, a_F α, a_S α, a_T α, va_up (a_C α) k (a_K α + 1), a_V α, a_K α + 1, a_un α)
def a_sun (α : AS) (f : Nat → Int32) : AS := (a_c α, a_F α, a_S α, a_T α, a_C α, a_V α, a_K α, f)
def shr (g : Nat → Int32) (i c : Nat) : Nat → Int32 := fun j => if i < j ∧ j ≤ c then g (j - 1) else g j
theorem shr_0 (g : Nat → Int32) (c : Nat) : shr g c c = g := funext fun j => if_neg (by omega)
theorem shr_lo {g : Nat → Int32} {i c j : Nat} (h : j ≤ i) : shr g i c j = g j := if_neg (by omega)
theorem shr_hi {g : Nat → Int32} {i c j : Nat} (h : i < j) (h2 : j ≤ c) : shr g i c j = g (j - 1) := if_pos ⟨h, h2⟩
theorem shr_s (g : Nat → Int32) {i c : Nat} (h : 1 ≤ i) (h2 : i ≤ c) : upd (shr g i c) i (shr g i c (i - 1)) = shr g (i - 1) c := by
  funext j
  by_cases e : j = i
  · subst e; rw [ud_at, shr_lo (by omega), shr_hi (by omega) h2]
  · rw [ud_ne e]
    by_cases h3 : i < j ∧ j ≤ c
    · rw [shr_hi h3.1 h3.2, shr_hi (by omega) h3.2]
    · unfold shr
      rw [if_neg h3, if_neg (by omega)]
def shl (g : Nat → Int32) (k i : Nat) : Nat → Int32 := fun j => if k < j ∧ j < i then g (j + 1) else g j
theorem shl_0 (g : Nat → Int32) (k : Nat) : shl g k (k + 1) = g := funext fun j => if_neg (by omega)
theorem shl_lo {g : Nat → Int32} {k i j : Nat} (h : j ≤ k) : shl g k i j = g j := if_neg (by omega)
theorem shl_hi {g : Nat → Int32} {k i j : Nat} (h : i ≤ j) : shl g k i j = g j := if_neg (by omega)
theorem shl_in {g : Nat → Int32} {k i j : Nat} (h : k < j) (h2 : j < i) : shl g k i j = g (j + 1) := if_pos ⟨h, h2⟩
theorem shl_s (g : Nat → Int32) {k i : Nat} (h : k < i) : upd (shl g k i) i (shl g k i (i + 1)) = shl g k (i + 1) := by
  funext j
  by_cases e : j = i
  · subst e; rw [ud_at, shl_hi (by omega), shl_in h (by omega)]
  · rw [ud_ne e]
    unfold shl
    by_cases h3 : k < j ∧ j < i
    · rw [if_pos h3, if_pos (by omega)]
    · rw [if_neg h3, if_neg (by omega)]
theorem s_d1 {a : Nat} (h : 0 < a) : nI a + (-1) = nI (a - 1) := sb_m1 h
theorem s_sub {a b : Nat} (h : b ≤ a) : nI a - nI b = nI (a - b) := pk_sub h
theorem M_part {α : AS} {μ : MS} (lim : Int32) (h : MR α μ) (g : GE α) {k s : Nat} {v : Int32} (hk : k < a_c α) (hs : s ≤ a_S α k) (hv : ¬ v = 0) {post : MS → Prop} (hp : ∀ μ', MR (a_part α k s v) μ' → post μ') : wM_part lim μ (nI k) (nI s) post := by
  obtain ⟨un, fi, sz, us, ca, en, ch, cl, vi⟩ := μ
  have hc := g.c
  have hS := g.sz hk
  obtain ⟨c, hcc⟩ : ∃ c, c = a_c α := ⟨_, rfl⟩
  rw [← hcc] at hc hk
  have key : ∀ f i, i ≤ c → k + 1 ≤ i → i < f + (k + 1) → wM_part_5 lim post f (un, shr fi i c, shr sz i c, shr us i c, shr ca i c, en, ch, cl, vi) (nI k) (nI s) (nI i) := by
    intro f
    induction f with
    | zero => intro i h3 h4; omega
    | succ f ih =>
      intro i h1 h2 h3
      show wM_part_5_s lim post (wM_part_5 lim post f) (un, shr fi i c, shr sz i c, shr us i c, shr ca i c, en, ch, cl, vi) (nI k) (nI s) (nI i)
      unfold wM_part_5_s
      rw [s_1, s_le (by omega) (by omega), s_m i (by omega), s_cl (show i < 100000 by omega), s_cl (show i - 1 < 100000 by omega)]
      refine ⟨fun q => ?_, fun q => ?_⟩
      · have e : i = k + 1 := by omega
        subst e
        unfold wM_part_74
        rw [s_1, s_cl (show k < 100000 by omega), s_cl (show k + 1 < 100000 by omega)]
        have i0 : vp_in (nI k) 258 := s_in (by omega) (by omega)
        have i1 : vp_in (nI (k + 1)) 258 := s_in (by omega) (by omega)
        refine ⟨i0, i1, i0, i1, i1, i1, i0, hp _ ?_⟩
        have hch : ch = nI c := by rw [hcc]; exact h.1
        refine ⟨?_, ?_, h.2.2.1, h.2.2.2.1, h.2.2.2.2.1, ?_⟩
        · show ch + 1 = nI (a_c α + 1)
          rw [hch, s_1, hcc]
        · show en = nI (a_ins (a_F α) k (a_F α k + s) (a_c α + 1))
          rw [a_ins_hi (by omega)]
          exact h.2.1
        · intro j hj
          have hj : j < a_c α + 1 := hj
          show upd (shr fi (k + 1) c) (k + 1) (shr fi (k + 1) c k + nI s) j = nI (a_ins (a_F α) k (a_F α k + s) j) ∧ upd (upd (shr sz (k + 1) c) (k + 1) (shr sz (k + 1) c k - nI s)) k (nI s) j = nI (va_up (a_ins (a_S α) k (a_S α k - s)) k s j) ∧ upd (shr us (k + 1) c) (k + 1) 0 j = (if a_ins (a_T α) k v j = 0 then 1 else 0) ∧ ((a_ins (a_T α) k v j = 1 ∨ a_ins (a_T α) k v j = 2) → upd (shr ca (k + 1) c) (k + 1) 0 j = a_ins (a_C α) k 0 j)
          have f0 : fi k = nI (a_F α k) := h.fi (by omega)
          have z0 : sz k = nI (a_S α k) := h.sz (by omega)
          rcases (show j < k ∨ j = k ∨ j = k + 1 ∨ k + 1 < j by omega) with r | r | r | r
          · rw [ud_ne (by omega), ud_ne (by omega), ud_ne (by omega), ud_ne (by omega), ud_ne (by omega), shr_lo (by omega), shr_lo (by omega), shr_lo (by omega), shr_lo (by omega), a_ins_lo (by omega), up_ne (by omega), a_ins_lo (by omega), a_ins_lo (by omega), a_ins_lo (by omega)]
            exact ⟨h.fi (by omega), h.sz (by omega), h.us (by omega), h.ca (by omega)⟩
          · subst r
            rw [ud_ne (by omega), ud_at, ud_ne (by omega), ud_ne (by omega), shr_lo (by omega), shr_lo (by omega), shr_lo (by omega), a_ins_lo (by omega), up_at, a_ins_lo (by omega), a_ins_lo (by omega)]
            exact ⟨h.fi (by omega), rfl, h.us (by omega), h.ca (by omega)⟩
          · subst r
            rw [ud_at, ud_ne (by omega), ud_at, ud_at, ud_at, shr_lo (by omega), shr_lo (by omega), a_ins_at, up_ne (by omega), a_ins_at, a_ins_at, a_ins_at, f0, z0, nI_add, s_sub hs, if_neg hv]
            exact ⟨rfl, rfl, rfl, fun _ => rfl⟩
          · rw [ud_ne (by omega), ud_ne (by omega), ud_ne (by omega), ud_ne (by omega), ud_ne (by omega), shr_hi (by omega) (by omega), shr_hi (by omega) (by omega), shr_hi (by omega) (by omega), shr_hi (by omega) (by omega), a_ins_hi (by omega), up_ne (by omega), a_ins_hi (by omega), a_ins_hi (by omega), a_ins_hi (by omega)]
            exact ⟨h.fi (by omega), h.sz (by omega), h.us (by omega), h.ca (by omega)⟩
      · have i0 : vp_in (nI (i - 1)) 258 := s_in (by omega) (by omega)
        have i1 : vp_in (nI i) 258 := s_in (by omega) (by omega)
        refine ⟨i0, i1, i0, i1, i0, i1, i0, i1, ?_⟩
        rw [s_d1 (by omega)]
        have hb : vp_nar .boolean (shr us i c (i - 1)) = shr us i c (i - 1) := by
          rw [shr_lo (by omega), show us (i - 1) = _ from h.us (by omega)]
          exact s_bit _ _
        have e := ih (i - 1) (by omega) (by omega) (by omega)
        rw [← shr_s fi (by omega) h1, ← shr_s sz (by omega) h1, ← shr_s us (by omega) h1, ← shr_s ca (by omega) h1] at e
        rw [← hb] at e
        exact e
  have hch : ch = nI c := by rw [hcc]; exact h.1
  refine ⟨c + 1, ?_⟩
  have e := key (c + 1) c (by omega) (by omega) (by omega)
  rw [shr_0, shr_0, shr_0, shr_0] at e
  show wM_part_5 lim post (c + 1) _ (nI k) (nI s) ch
  rw [hch]
  rw [hch] at e
  exact e
