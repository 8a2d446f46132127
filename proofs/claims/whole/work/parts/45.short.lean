theorem up_up {τ : Type} (f : Nat → τ) (k : Nat) (v x : τ) : va_up (va_up f k v) k x = va_up f k x := bx_uu f k v x
theorem gGive_sT (α : AS) (k : Nat) (v : Int32) : gGive (a_sT α k v) k = gGive α k := by
  have e5 : a_sT (a_sT α k v) k 5 = a_sT α k 5 := by
    show (_, _, _, va_up (va_up (a_T α) k v) k 5, _, _, _, _) = _
    rw [up_up]
    rfl
  unfold gGive
  rw [e5, show a_T (a_sT α k v) (k + 1) = a_T α (k + 1) from up_ne (by omega)]
  rfl
/-- a used chunk parted, both parts used -/
theorem part0_eq (α : AS) {k s : Nat} (h : a_T α k = 0) : a_part (a_sT α k 0) k s 0 = a_sT (a_part α k s 5) (k + 1) 0 := by
  rw [a_sT_same α h]
  show (_, _, _, a_ins (a_T α) k 0, _, _, _, _) = (_, _, _, va_up (a_ins (a_T α) k 5) (k + 1) 0, _, _, _, _)
  rw [up_ins]
  rfl
theorem WF.part0 {n : Nat} {α : AS} (w : WF n α) {k s : Nat} (hk : k < a_c α) (hT : a_T α k = 0) (h2 : 2 ≤ s) (hs : s + 2 ≤ a_S α k) : WF n (a_part (a_sT α k 0) k s 0) := by
  refine w.part hk h2 hs (v := 0) (Or.inl rfl) rfl (Or.inl rfl) (fun j hj _ t => (w.v1 hj t).1) ?_
  rcases w.2.2.2.2.2 with z | ⟨j, hj, z1, z2⟩
  · exact Or.inl z
  · exact Or.inr (Or.inr ⟨j, hj, fun e => by rw [e, hT] at z2; exact absurd z2 (by decide), z1, z2⟩)
theorem WF.nV {n : Nat} {α : AS} (w : WF n α) {k : Nat} (hk : k < a_c α) (hT : a_T α k = 0) : ¬ nI (a_F α k) = a_V α := fun e => by
  have := w.v3 hk e.symm
  rw [hT] at this; exact absurd this (by decide)
theorem WF.short {n : Nat} {α : AS} (w : WF n α) {k s : Nat} (hk : k < a_c α) (hT : a_T α k = 0) (h2 : 2 ≤ s) : WF n (aSh α k s) := by
  unfold aSh
  by_cases q : a_S α k < s + 2
  · rw [if_pos q]; exact w
  · rw [if_neg q, ← gGive_sT _ _ 0, ← part0_eq α hT]
    exact (w.part0 hk hT h2 (by omega)).give (show k + 1 < a_c α + 1 by omega) a_ins_at
theorem X_shorten {n : Nat} {α : AS} (lim : Int32) {σ : XS} (h : XR n α σ) (w : WF n α) {k s : Nat} (hk : k < a_c α) (hT : a_T α k = 0) (h2 : 2 ≤ s) (hs : s ≤ a_S α k) {post : XS → Prop} (hp : ∀ σ', XR n (aSh α k s) σ' → post σ') : wX_shorten n lim σ (nI (a_F α k)) (nI s) post := by
  have g := w.ge
  have hE := w.2.1
  have hn := w.2.2.1
  have l := g.lt k (a_c α) hk (Nat.le_refl _)
  have hS := g.sz hk
  unfold aSh at hp
  unfold wX_shorten
  rw [s_cl (show a_F α k < 100000 by omega), h.1.z hk, s_sub hs]
  refine ⟨s_in (by omega) (by omega), fun q => ?_, fun q => ?_⟩
  · have q := (s_lt (b := 2) (by omega) (by omega)).mp q
    rw [if_pos (by omega)] at hp
    exact hp σ h
  · have q : ¬ a_S α k - s < 2 := fun z => q ((s_lt (b := 2) (by omega) (by omega)).mpr z)
    rw [if_neg (by omega), ← gGive_sT _ _ 0, ← part0_eq α hT] at hp
    refine X_cut lim 0 (h.1.z hk) hs (by omega) (by omega) (by omega) (by decide) (fun y => by omega) (fun y => ?_)
    have h1 := XR.cut0 h g hk h2 y hT (w.nV hk hT)
    have w1 := w.part0 hk hT h2 y
    have r := X_release lim h1 w1 (show k + 1 < a_c α + 1 by omega) a_ins_at hp
    rw [show a_F (a_part (a_sT α k 0) k s 0) (k + 1) = a_F α k + s from a_ins_at] at r
    rw [nI_add]
    exact r
/-- used chunks stay -/
def Kp (α β : AS) : Prop := ∀ j, j < a_c α → a_T α j = 0 → ∃ o, o < a_c β ∧ a_F β o = a_F α j ∧ a_S β o = a_S α j ∧ a_T β o = 0
theorem Kp.trans {α β γ : AS} (h1 : Kp α β) (h2 : Kp β γ) : Kp α γ := fun j hj t => by
  obtain ⟨o, a, b, c, d⟩ := h1 j hj t
  obtain ⟨o2, a2, b2, c2, d2⟩ := h2 o a d
  exact ⟨o2, a2, b2.trans b, c2.trans c, d2⟩
theorem Kp.refl (α : AS) : Kp α α := fun j hj t => ⟨j, hj, rfl, rfl, t⟩
theorem Kp.use (α : AS) (k : Nat) (V : Int32) : Kp α (a_sV (a_sT α k 0) V) := fun j hj t => by
  refine ⟨j, hj, rfl, rfl, ?_⟩
  show va_up (a_T α) k 0 j = 0
  by_cases e : j = k
  · subst e; exact up_at
  · rw [up_ne e]; exact t
theorem Kp.part {α : AS} {k s : Nat} {v : Int32} (hk : k < a_c α) (hT : ¬ a_T α k = 0) {T' C' : Nat → Int32} {V' K' : Int32} {un' : Nat → Int32} (eT : T' = a_ins (va_up (a_T α) k 0) k v) : Kp α (a_c α + 1, a_ins (a_F α) k (a_F α k + s), va_up (a_ins (a_S α) k (a_S α k - s)) k s, T', C', V', K', un') := fun j hj t => by
  have ne : j ≠ k := fun e => hT (by rw [← e]; exact t)
  rcases (show j < k ∨ k < j by omega) with q | q
  · refine ⟨j, show j < a_c α + 1 by omega, a_ins_lo (by omega), ?_, ?_⟩
    · show va_up (a_ins (a_S α) k (a_S α k - s)) k s j = _
      rw [up_ne ne, a_ins_lo (by omega)]
    · show T' j = 0
      rw [eT, a_ins_lo (by omega), up_ne ne]; exact t
  · refine ⟨j + 1, show j + 1 < a_c α + 1 by omega, a_ins_hi (by omega), ?_, ?_⟩
    · show va_up (a_ins (a_S α) k (a_S α k - s)) k s (j + 1) = _
      rw [up_ne (by omega), a_ins_hi (by omega)]; rfl
    · show T' (j + 1) = 0
      rw [eT, a_ins_hi (by omega)]
      show va_up (a_T α) k 0 j = 0
      rw [up_ne ne]; exact t
theorem kp_T {α : AS} {t s : Nat} (ht : t < a_c α) (hT : ¬ a_T α t = 0) : Kp α (cutT α t s) := by
  unfold cutT
  split
  · exact Kp.use α t (a_V α)
  · exact Kp.part ht hT rfl
theorem kp_V {α : AS} {t s : Nat} (ht : t < a_c α) (hT : ¬ a_T α t = 0) : Kp α (cutV α t s) := by
  unfold cutV
  split
  · exact Kp.use α t (-1)
  · exact Kp.part ht hT rfl
theorem kp_S {α : AS} {t s : Nat} (ht : t < a_c α) (hT : ¬ a_T α t = 0) : Kp α (cutS α t s) := by
  unfold cutS
  split
  · exact Kp.use α t (a_V α)
  · rw [a_partS_eq]
    exact Kp.part ht hT rfl
theorem kp_up (α : AS) {v : Nat} {x : Int32} {C' : Nat → Int32} {V' K' : Int32} {un' : Nat → Int32} (hT : ¬ a_T α v = 0) : Kp α (a_c α, a_F α, a_S α, va_up (a_T α) v x, C', V', K', un') := fun j hj t => by
  have ne : j ≠ v := fun e => hT (by rw [← e]; exact t)
  refine ⟨j, hj, rfl, rfl, ?_⟩
  show va_up (a_T α) v x j = 0
  rw [up_ne ne]; exact t
theorem kp_gT {α : AS} {t m : Nat} (ht : t + 1 = a_c α) (hT : ¬ a_T α t = 0) : Kp α (a_growT α t m) := fun j hj tj => by
  have ne : j ≠ t := fun e => hT (by rw [← e]; exact tj)
  refine ⟨j, hj, ?_, ?_, tj⟩
  · show va_up (a_F α) (a_c α) _ j = _
    rw [up_ne (by omega)]
  · show va_up (a_S α) t _ j = _
    rw [up_ne ne]
theorem kp_g0 (α : AS) (m : Nat) : Kp α (a_grow0 α m) := fun j hj tj => by
  refine ⟨j, show j < a_c α + 1 by omega, ?_, ?_, ?_⟩
  · show va_up (a_F α) (a_c α + 1) _ j = _
    rw [up_ne (by omega)]
  · show va_up (a_S α) (a_c α) _ j = _
    rw [up_ne (by omega)]
  · show va_up (a_T α) (a_c α) 4 j = 0
    rw [up_ne (by omega)]; exact tj
/-- what taking keeps, where the taken one lies, how large it is -/
theorem TK_kp {n : Nat} {α : AS} (w : WF n α) {s k : Nat} {β : AS} (h2 : 2 ≤ s) (h : TK n α s k β) : Kp α β ∧ s ≤ a_S β k ∧ ∀ j, j < a_c α → a_T α j = 0 → a_F β k ≠ a_F α j := by
  have g := w.ge
  have far : ∀ i, i < a_c α → ¬ a_T α i = 0 → ∀ j, j < a_c α → a_T α j = 0 → a_F α i ≠ a_F α j := fun i hi ti j hj tj e => by
    have := g.inj (Nat.le_of_lt hi) (Nat.le_of_lt hj) e
    subst this; exact ti tj
  have cS : ∀ (γ : AS) (t : Nat) (v : Int32), s ≤ a_S γ t → s ≤ a_S (a_part (a_sT γ t 0) t s v) t := fun γ t v _ => by
    show s ≤ va_up (a_ins (a_S γ) t _) t s t
    rw [up_at]; exact Nat.le_refl _
  have cF : ∀ (γ : AS) (t : Nat) (v : Int32), a_F (a_part (a_sT γ t 0) t s v) t = a_F γ t := fun γ t v => a_ins_lo (Nat.le_refl _)
  have vv : ∀ (γ : AS) (v : Nat), s ≤ a_S γ v → s ≤ a_S (cutV γ v s) v ∧ a_F (cutV γ v s) v = a_F γ v := fun γ v hs => by
    unfold cutV
    split
    · exact ⟨hs, rfl⟩
    · exact ⟨cS γ v 3 hs, cF γ v 3⟩
  have tt : ∀ (γ : AS) (v : Nat), s ≤ a_S γ v → s ≤ a_S (cutT γ v s) v ∧ a_F (cutT γ v s) v = a_F γ v := fun γ v hs => by
    unfold cutT
    split
    · exact ⟨hs, rfl⟩
    · exact ⟨cS γ v 4 hs, cF γ v 4⟩
  rcases h with ⟨a, h⟩ | ⟨a, h⟩ | ⟨a, h⟩
  · rcases h with ⟨b, rfl⟩ | ⟨-, b1, b2, b3, rfl⟩ | ⟨-, -, b, c⟩
    · exact ⟨Kp.use α k (a_V α), b.2.1.2.1, far k b.1 (w.st b.1 b.2.1.1).2.2.1⟩
    · have n0 : ¬ a_T α k = 0 := by rw [b2]; decide
      have q := vv α k b3
      exact ⟨kp_V b1 n0, q.1, by rw [q.2]; exact far k b1 n0⟩
    · have n0 := (w.st b.1 b.2.1.1).2.2.1
      have hs : s ≤ a_S α k := by have := b.2.1.2.1; omega
      rcases c with ⟨-, rfl⟩ | ⟨c1, c2, rfl⟩ | ⟨c1, v, c2, c3, rfl⟩
      · exact ⟨Kp.use α k (a_V α), hs, far k b.1 n0⟩
      · exact ⟨Kp.part b.1 n0 rfl, cS α k 3 hs, by rw [show a_F (cutN0 α k s) k = a_F α k from cF α k 3]; exact far k b.1 n0⟩
      · have hne : v ≠ k := fun e => (w.st b.1 b.2.1.1).2.2.2 (by rw [← e]; exact c3)
        have nv : ¬ a_T α v = 0 := by rw [c3]; decide
        rw [cutN1_eq α hne]
        have k1 := kp_up α (v := v) (x := a_code (a_S α v)) (C' := a_C α) (V' := a_V α) (K' := a_K α) (un' := a_un α) nv
        have k2 : Kp (a_c α, a_F α, a_S α, va_up (a_T α) v (a_code (a_S α v)), a_C α, a_V α, a_K α, a_un α) (a_c α + 1, a_ins (a_F α) k (a_F α k + s), va_up (a_ins (a_S α) k (a_S α k - s)) k s, a_ins (va_up (va_up (a_T α) v (a_code (a_S α v))) k 0) k 3, a_ins (va_up (a_C α) v (a_K α + 1)) k 0, nI (a_F α k + s), a_K α + 1, a_un α) := Kp.part (α := (a_c α, a_F α, a_S α, va_up (a_T α) v (a_code (a_S α v)), a_C α, a_V α, a_K α, a_un α)) b.1 (by show ¬ va_up (a_T α) v _ k = 0; rw [up_ne (fun e => hne e.symm)]; exact n0) rfl
        refine ⟨k1.trans k2, ?_, ?_⟩
        · show s ≤ va_up (a_ins (a_S α) k _) k s k
          rw [up_at]; exact Nat.le_refl _
        · have e : a_F ((a_c α + 1, a_ins (a_F α) k (a_F α k + s), va_up (a_ins (a_S α) k (a_S α k - s)) k s, a_ins (va_up (va_up (a_T α) v (a_code (a_S α v))) k 0) k 3, a_ins (va_up (a_C α) v (a_K α + 1)) k 0, nI (a_F α k + s), a_K α + 1, a_un α) : AS) k = a_F α k := a_ins_lo (Nat.le_refl _)
          rw [e]; exact far k b.1 n0
  · rcases h with ⟨b, -, rfl⟩ | ⟨b1, b2, b3, -, rfl⟩
    · have n0 := (w.st b.1 b.2.1.1).2.2.1
      have hs := b.2.1.2.1
      refine ⟨kp_S b.1 n0, ?_, ?_⟩
      · unfold cutS
        split
        · exact hs
        · exact cS α k 5 hs
      · have e : a_F (cutS α k s) k = a_F α k := by
          unfold cutS
          split
          · rfl
          · exact cF α k 5
        rw [e]; exact far k b.1 n0
    · have n0 : ¬ a_T α k = 0 := by rw [b2]; decide
      have q := vv α k b3
      exact ⟨kp_V b1 n0, q.1, by rw [q.2]; exact far k b1 n0⟩
  · rcases h with ⟨b1, b2, b3, rfl⟩ | ⟨b1, b2, b3, b4, rfl⟩ | ⟨b1, b2, rfl, rfl⟩
    · have n0 : ¬ a_T α k = 0 := by rw [b2]; decide
      have q := tt α k b3
      exact ⟨kp_T (by omega) n0, q.1, by rw [q.2]; exact far k (by omega) n0⟩
    · have n0 : ¬ a_T α k = 0 := by rw [b2]; decide
      have hup : s - a_S α k ≤ up16 (s - a_S α k) := by unfold up16; omega
      have eS : a_S (a_growT α k (up16 (s - a_S α k))) k = a_S α k + up16 (s - a_S α k) := up_at
      have q := tt (a_growT α k (up16 (s - a_S α k))) k (by rw [eS]; omega)
      refine ⟨(kp_gT b1 n0).trans (kp_T (show k < a_c α by omega) n0), q.1, ?_⟩
      rw [q.2, show a_F (a_growT α k (up16 (s - a_S α k))) k = a_F α k from up_ne (by omega)]
      exact far k (by omega) n0
    · have hup : s ≤ up16 s := by unfold up16; omega
      have eS : a_S (a_grow0 α (up16 s)) (a_c α) = up16 s := up_at
      have eT : a_T (a_grow0 α (up16 s)) (a_c α) = 4 := up_at
      have q := tt (a_grow0 α (up16 s)) (a_c α) (by rw [eS]; omega)
      refine ⟨(kp_g0 α _).trans (kp_T (show a_c α < a_c α + 1 by omega) (by rw [eT]; decide)), q.1, fun j hj tj e => ?_⟩
      rw [q.2, show a_F (a_grow0 α (up16 s)) (a_c α) = a_F α (a_c α) from up_ne (by omega)] at e
      have := g.lt j (a_c α) hj (Nat.le_refl _)
      omega
