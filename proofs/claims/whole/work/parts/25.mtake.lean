def a_code (s : Nat) : Int32 := if s < 16 then 1 else 2
theorem a_code_n (s : Nat) : ¬ a_code s = 0 ∧ (a_code s = 1 ∨ a_code s = 2) := by unfold a_code; split <;> decide
def NV (α : AS) (s : Nat) : Prop := ∀ v, v < a_c α → a_T α v = 3 → a_S α v < s
def NC (α : AS) (lo hi : Nat) : Prop := ∀ i, i < a_c α → ¬ cand α lo hi i
def cutV (α : AS) (v s : Nat) : AS := if a_S α v < s + 2 then a_sV (a_sT α v 0) (-1) else a_sV (a_part (a_sT α v 0) v s 3) (nI (a_F α v + s))
def cutT (α : AS) (t s : Nat) : AS := if a_S α t < s + 2 then a_sT α t 0 else a_part (a_sT α t 0) t s 4
def cutS (α : AS) (b s : Nat) : AS := if a_S α b < s + 2 then a_sT α b 0 else a_stor2 (a_part (a_sT α b 0) b s 5) (b + 1) (a_code (a_S α b - s))
def cutN0 (α : AS) (b s : Nat) : AS := a_sV (a_part (a_sT α b 0) b s 3) (nI (a_F α b + s))
def cutN1 (α : AS) (b s w : Nat) : AS := a_sV (a_stor2 (a_part (a_sT α b 0) b s 3) (if w < b then w else w + 1) (a_code (a_S α w))) (nI (a_F α b + s))
def hi1 (s : Nat) : Nat := if s < 15 then s + 1 else s
def TS (α : AS) (s k : Nat) (β : AS) : Prop :=
  (BstU α s (hi1 s) (a_c α) k ∧ β = a_sT α k 0) ∨
  (NC α s (hi1 s) ∧ k < a_c α ∧ a_T α k = 3 ∧ s ≤ a_S α k ∧ β = cutV α k s) ∨
  (NC α s (hi1 s) ∧ NV α s ∧ BstU α (s + 1) 1000 (a_c α) k ∧ ((a_S α k < s + 2 ∧ β = a_sT α k 0) ∨ (s + 2 ≤ a_S α k ∧ a_V α = -1 ∧ β = cutN0 α k s) ∨ (s + 2 ≤ a_S α k ∧ ∃ w, w < a_c α ∧ a_T α w = 3 ∧ β = cutN1 α k s w)))
def TL (α : AS) (s k : Nat) (β : AS) : Prop :=
  (BstU α s 1000 (a_c α) k ∧ (∀ v, v < a_c α → a_T α v = 3 → a_S α v < s ∨ a_S α k < a_S α v) ∧ β = cutS α k s) ∨
  (k < a_c α ∧ a_T α k = 3 ∧ s ≤ a_S α k ∧ (∀ b, BstU α s 1000 (a_c α) b → a_S α k ≤ a_S α b) ∧ β = cutV α k s)
def NoSt (α : AS) (s : Nat) : Prop := NC α s 1000 ∧ NV α s
theorem WF.v1 {n : Nat} {α : AS} (w : WF n α) {j : Nat} (hj : j < a_c α) (e : a_T α j = 3) : a_V α = nI (a_F α j) ∧ j + 1 ≠ a_c α := by
  rcases w.to hj with t | t | t | t | t
  · rw [e] at t; exact absurd t (by decide)
  · rw [e] at t; exact absurd t.1 (by decide)
  · rw [e] at t; exact absurd t.1 (by decide)
  · exact t.2
  · rw [e] at t; exact absurd t.1 (by decide)
theorem WF.vu {n : Nat} {α : AS} (w : WF n α) {i j : Nat} (hi : i < a_c α) (hj : j < a_c α) (ei : a_T α i = 3) (ej : a_T α j = 3) : i = j := by
  have g := w.ge
  have l1 := g.le (Nat.le_of_lt hi)
  have l2 := g.le (Nat.le_of_lt hj)
  have e := (s_eq (by omega) (by omega)).mp ((w.v1 hi ei).1.symm.trans (w.v1 hj ej).1)
  exact g.inj (Nat.le_of_lt hi) (Nat.le_of_lt hj) e
theorem WF.vn {n : Nat} {α : AS} (w : WF n α) (e : a_V α = -1) {j : Nat} (hj : j < a_c α) : ¬ a_T α j = 3 := by
  intro t
  have l2 := w.ge.le (Nat.le_of_lt hj)
  exact absurd ((w.v1 hj t).1.symm.trans e) (s_m1 (by omega))
theorem TS_uniq {n : Nat} {α : AS} (w : WF n α) {s k1 k2 : Nat} {b1 b2 : AS} (h1 : TS α s k1 b1) (h2 : TS α s k2 b2) : k1 = k2 ∧ b1 = b2 := by
  rcases h1 with ⟨a1, rfl⟩ | ⟨a1, a2, a3, a4, rfl⟩ | ⟨a1, a2, a3, a4⟩ <;> rcases h2 with ⟨c1, rfl⟩ | ⟨c1, c2, c3, c4, rfl⟩ | ⟨c1, c2, c3, c4⟩
  · have := a1.uniq c1; subst this; exact ⟨rfl, rfl⟩
  · exact absurd a1.2.1 (c1 _ a1.1)
  · exact absurd a1.2.1 (c1 _ a1.1)
  · exact absurd c1.2.1 (a1 _ c1.1)
  · have := w.vu a2 c2 a3 c3; subst this; exact ⟨rfl, rfl⟩
  · have := c2 _ a2 a3; omega
  · exact absurd c1.2.1 (a1 _ c1.1)
  · have := a2 _ c2 c3; omega
  · have := a3.uniq c3; subst this
    refine ⟨rfl, ?_⟩
    rcases a4 with ⟨x1, rfl⟩ | ⟨x1, x2, rfl⟩ | ⟨x1, w1, x2, x3, rfl⟩ <;> rcases c4 with ⟨y1, rfl⟩ | ⟨y1, y2, rfl⟩ | ⟨y1, w2, y2, y3, rfl⟩
    · rfl
    · omega
    · omega
    · omega
    · rfl
    · exact absurd y3 (w.vn x2 y2)
    · omega
    · exact absurd x3 (w.vn y2 x2)
    · have := w.vu x2 y2 x3 y3; subst this; rfl
theorem TL_uniq {n : Nat} {α : AS} (w : WF n α) {s k1 k2 : Nat} {b1 b2 : AS} (h1 : TL α s k1 b1) (h2 : TL α s k2 b2) : k1 = k2 ∧ b1 = b2 := by
  rcases h1 with ⟨a1, a2, rfl⟩ | ⟨a1, a2, a3, a4, rfl⟩ <;> rcases h2 with ⟨c1, c2, rfl⟩ | ⟨c1, c2, c3, c4, rfl⟩
  · have := a1.uniq c1; subst this; exact ⟨rfl, rfl⟩
  · have h3 := a2 _ c1 c2
    have h4 := c4 _ a1
    omega
  · have h3 := c2 _ a1 a2
    have h4 := a4 _ c1
    omega
  · have := w.vu a1 c1 a2 c2; subst this; exact ⟨rfl, rfl⟩
theorem TS_no {α : AS} {s k : Nat} {β : AS} (hs : s < 16) (h : TS α s k β) (hn : NoSt α s) : False := by
  rcases h with ⟨a1, -⟩ | ⟨a1, a2, a3, a4, -⟩ | ⟨a1, a2, a3, a4⟩
  · have := a1.2.1
    exact hn.1 _ a1.1 ⟨this.1, this.2.1, by have h2 := this.2.2; unfold hi1 at h2; split at h2 <;> omega⟩
  · have := hn.2 _ a2 a3; omega
  · have := a3.2.1
    exact hn.1 _ a3.1 ⟨this.1, by have := this.2.1; omega, this.2.2⟩
theorem TL_no {α : AS} {s k : Nat} {β : AS} (h : TL α s k β) (hn : NoSt α s) : False := by
  rcases h with ⟨a1, -, -⟩ | ⟨a1, a2, a3, a4, -⟩
  · exact hn.1 _ a1.1 a1.2.1
  · have := hn.2 _ a1 a2; omega
theorem M_fromVictim {n : Nat} {α : AS} {μ : MS} (lim : Int32) (h : MR α μ) (w : WF n α) {s : Nat} (hs : s < 100000) {post : Int32 → MS → Prop} (h1 : ∀ v, v < a_c α → a_T α v = 3 → s ≤ a_S α v → ∀ μ', MR (cutV α v s) μ' → post (nI v) μ') (h2 : NV α s → post (-1) μ) : wM_fromVictim lim μ (nI s) post := by
  have g := w.ge
  have hc := g.c
  unfold wM_fromVictim
  rw [h.vi]
  rcases w.2.2.2.2.2 with e | ⟨j, hj, e, t⟩
  · rw [e]
    refine ⟨fun q => absurd q (by decide), fun q => ⟨fun _ => h2 (fun v hv tv => absurd tv (w.vn e hv)), fun q2 => absurd (by decide) q2⟩⟩
  · have hl := g.le (Nat.le_of_lt hj)
    have hS := g.sz hj
    rw [e]
    refine ⟨fun q => M_atk lim h g hj ?_, fun q => absurd (s_pos' (by omega)) q⟩
    unfold wM_fromVictim_19
    rw [s_cl (show j < 100000 by omega), h.sz hj, s_le hs (by omega), s_1]
    refine ⟨fun q => absurd q (s_pos (by omega)), fun q => ⟨s_in (by omega) (by omega), fun q2 => ?_, fun q2 => ?_⟩⟩
    · refine M_cut lim h g (v := 3) hj q2 (by decide) (fun q3 μ' hm => ?_) (fun q3 μ' hm => ?_)
      · refine ⟨fun _ => h1 j hj t q2 _ ?_, fun q4 => absurd rfl q4⟩
        unfold cutV
        rw [if_pos q3]
        exact hm.vic (-1)
      · refine ⟨fun q4 => absurd q4 (by decide), fun _ => ⟨s_in (by omega) (by omega), h1 j hj t q2 _ ?_⟩⟩
        unfold cutV
        rw [if_neg (by omega), s_cl (show j + 1 < 100000 by omega)]
        have ef : m_fi μ' (j + 1) = nI (a_F α j + s) := by
          rw [hm.fi (show j + 1 < a_c α + 1 by omega)]
          exact congrArg nI a_ins_at
        rw [ef]
        exact hm.vic _
    · exact h2 (fun v hv tv => by have := w.vu hv hj tv t; subst this; omega)
