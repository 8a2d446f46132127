/-- used chunks but k stay, and none of them comes to lie at m -/
def Kq (α : AS) (k : Nat) (β : AS) (m : Nat) : Prop := ∀ j, j < a_c α → a_T α j = 0 → j ≠ k → ∃ o, o < a_c β ∧ a_F β o = a_F α j ∧ a_S β o = a_S α j ∧ a_T β o = 0 ∧ o ≠ m
theorem Kq.trans {α β γ : AS} {k m l : Nat} (h1 : Kq α k β m) (h2 : Kq β m γ l) : Kq α k γ l := fun j hj t ne => by
  obtain ⟨o, a, b, c, d, e⟩ := h1 j hj t ne
  obtain ⟨o2, a2, b2, c2, d2, e2⟩ := h2 o a d e
  exact ⟨o2, a2, b2.trans b, c2.trans c, d2, e2⟩
theorem kq_T (α : AS) (k : Nat) (x : Int32) (C' : Nat → Int32) (V' K' : Int32) (un' : Nat → Int32) : Kq α k (a_c α, a_F α, a_S α, va_up (a_T α) k x, C', V', K', un') k := fun j hj t ne => by
  refine ⟨j, hj, rfl, rfl, ?_, ne⟩
  show va_up (a_T α) k x j = 0
  rw [up_ne ne]; exact t
theorem kq_fin (α : AS) (k : Nat) (b : Bool) : Kq α k (gFin α k b) k := by
  unfold gFin
  split
  · exact kq_T α k 4 _ _ _ _
  · split
    · exact kq_T α k 3 _ _ _ _
    · exact kq_T α k _ _ _ _ _
theorem kq_join {α : AS} {k m : Nat} (hk : k + 1 < a_c α) (hm : (m = k ∧ ¬ a_T α (k + 1) = 0) ∨ (m = k + 1 ∧ ¬ a_T α k = 0)) : Kq α m (a_join α k) k := fun j hj t ne => by
  have n1 : j ≠ k := fun e => by
    subst e
    rcases hm with z | z
    · exact ne z.1.symm
    · exact z.2 t
  have n2 : j ≠ k + 1 := fun e => by
    subst e
    rcases hm with z | z
    · exact z.2 t
    · exact ne z.1.symm
  rcases (show j < k ∨ k + 1 < j by omega) with q | q
  · refine ⟨j, show j < a_c α - 1 by omega, a_del_lo (by omega), ?_, ?_, n1⟩
    · show va_up (a_del (a_S α) k) k _ j = _
      rw [up_ne n1, a_del_lo (by omega)]
    · show a_del (a_T α) k j = 0
      rw [a_del_lo (by omega)]; exact t
  · have e1 : j - 1 + 1 = j := by omega
    refine ⟨j - 1, show j - 1 < a_c α - 1 by omega, ?_, ?_, ?_, by omega⟩
    · show a_del (a_F α) k (j - 1) = _
      rw [a_del_hi (by omega), e1]
    · show va_up (a_del (a_S α) k) k _ (j - 1) = _
      rw [up_ne (by omega), a_del_hi (by omega), e1]
    · show a_del (a_T α) k (j - 1) = 0
      rw [a_del_hi (by omega), e1]; exact t
theorem kq_58 {α : AS} {k : Nat} (hk : k < a_c α) (b : Bool) : ∃ m, Kq α k (g58 α k b) m := by
  unfold g58
  split
  · exact ⟨k, kq_fin α k b⟩
  · rename_i z
    have z1 : ¬ k = 0 := fun y => z (Or.inl y)
    have z2 : ¬ a_T α (k - 1) = 0 := fun y => z (Or.inr y)
    exact ⟨k - 1, (kq_join (show k - 1 + 1 < a_c α by omega) (Or.inr ⟨by omega, z2⟩)).trans (kq_fin _ _ _)⟩
theorem kq_give {α : AS} {k : Nat} (hk : k < a_c α) : ∃ m, Kq α k (gGive α k) m := by
  have k5 : Kq α k (a_sT α k 5) k := kq_T α k 5 _ _ _ _
  unfold gGive
  split
  · rename_i z
    have eT : a_T (a_sT α k 5) (k + 1) = a_T α (k + 1) := up_ne (by omega)
    have kj : Kq (a_sT α k 5) k (a_join (a_sT α k 5) k) k := kq_join (α := a_sT α k 5) z.1 (Or.inl ⟨rfl, by rw [eT]; exact z.2⟩)
    obtain ⟨m, hm⟩ := kq_58 (α := a_join (a_sT α k 5) k) (k := k) (show k < a_c α - 1 by omega) (decide (a_V α = nI (a_F α (k + 1))))
    exact ⟨m, (k5.trans kj).trans hm⟩
  · obtain ⟨m, hm⟩ := kq_58 (α := a_sT α k 5) hk false
    exact ⟨m, k5.trans hm⟩
def isA (a : Nat) : Prop := a = 2 ∨ a = 4 ∨ a = 8 ∨ a = 16
/-- how many units go in front -/
def fr (p a : Nat) : Nat := if 2 ≤ a - p % a then a - p % a else a - p % a + a
theorem fr_spec {p a : Nat} (ha : isA a) : 2 ≤ fr p a ∧ fr p a ≤ a + 1 := by
  unfold fr
  rcases ha with rfl | rfl | rfl | rfl
  all_goals split <;> omega
theorem fr_mod {p a : Nat} (ha : isA a) (h : ¬ p % a = 0) : (p + fr p a) % a = 0 ∧ ∀ i, 2 ≤ i → i < fr p a → ¬ (p + i) % a = 0 := by
  unfold fr
  rcases ha with rfl | rfl | rfl | rfl
  all_goals
    split
    · exact ⟨by omega, fun i h1 h2 => by omega⟩
    · exact ⟨by omega, fun i h1 h2 => by omega⟩
/-- the front parted off and given back -/
def aFr (β : AS) (k f : Nat) : AS := gGive (a_part (a_sT β k 0) k f 0) k
theorem fr_wf {n : Nat} {β : AS} (w : WF n β) {k f : Nat} (hk : k < a_c β) (hT : a_T β k = 0) (h2 : 2 ≤ f) (hf : f + 2 ≤ a_S β k) : WF n (a_part (a_sT β k 0) k f 0) ∧ a_T (a_part (a_sT β k 0) k f 0) k = 0 ∧ WF n (aFr β k f) ∧ ∃ o, o < a_c (aFr β k f) ∧ a_F (aFr β k f) o = a_F β k + f ∧ a_S (aFr β k f) o = a_S β k - f ∧ a_T (aFr β k f) o = 0 := by
  have w1 := w.part0 hk hT h2 hf
  have t0 : a_T (a_part (a_sT β k 0) k f 0) k = 0 := by
    show a_ins (va_up (a_T β) k 0) k 0 k = 0
    rw [a_ins_lo (Nat.le_refl _), up_at]
  have hc1 : k < a_c (a_part (a_sT β k 0) k f 0) := show k < a_c β + 1 by omega
  have hc2 : k + 1 < a_c (a_part (a_sT β k 0) k f 0) := show k + 1 < a_c β + 1 by omega
  obtain ⟨m, hm⟩ := kq_give hc1
  obtain ⟨o, a, b, c, d, -⟩ := hm (k + 1) hc2 a_ins_at (by omega)
  refine ⟨w1, t0, w1.give hc1 t0, o, a, b.trans a_ins_at, c.trans ?_, d⟩
  show va_up (a_ins (a_S β) k (a_S β k - f)) k f (k + 1) = _
  rw [up_ne (by omega), a_ins_at]
theorem X_align {n : Nat} {α : AS} {σ : XS} (h : XR n α σ) (w : WF n α) (v b : Int32) {post : Int32 → XS → Prop}
    (p0 : (¬ v ≤ 511 ∨ ∀ a, isA a → ¬ b = nI a) → post 0 σ)
    (pN : v ≤ 511 → ∀ a, isA a → b = nI a → TN n α (uf v + a + 2) → post 0 σ)
    (p1 : v ≤ 511 → ∀ a, isA a → b = nI a → ∀ k β σ', TK n α (uf v + a + 2) k β → (a_F β k + 1) % a = 0 → XR n (aSh β k (uf v)) σ' → post (nI (a_F β k + 1)) σ')
    (p2 : v ≤ 511 → ∀ a, isA a → b = nI a → ∀ k β o σ', TK n α (uf v + a + 2) k β → ¬ (a_F β k + 1) % a = 0 → o < a_c (aFr β k (fr (a_F β k + 1) a)) → a_F (aFr β k (fr (a_F β k + 1) a)) o = a_F β k + fr (a_F β k + 1) a → XR n (aSh (aFr β k (fr (a_F β k + 1) a)) o (uf v)) σ' → post (nI (a_F β k + 1 + fr (a_F β k + 1) a)) σ') : wX_align n (nI n) σ v b post := by
  have hn := w.2.2.1
  have body : v ≤ 511 → ∀ a, isA a → b = nI a → wX_unitsFor n (nI n) σ v (fun r17 σ17 => wX_take n (nI n) σ17 ((r17 + b) + 2) (fun r27 σ27 => ((¬ r27 = (-1) → wX_unitsInFront n (nI n) σ27 (r27 + 1) b (fun r45 σ45 => ((r45 ≤ 0 → wX_align_71 n (nI n) σ45 r17 r27 r45 post) ∧ (¬ r45 ≤ 0 → wX_cut n (nI n) σ45 r27 r45 0 (fun r61 σ61 => wX_release n (nI n) σ61 r27 (fun σ68 => wX_align_71 n (nI n) σ68 r17 r27 r45 post)))))) ∧ (r27 = (-1) → post 0 σ27)))) := by
    intro q a ha eb
    obtain ⟨e, l1, l2⟩ := uf_spec q
    have a16 : 2 ≤ a ∧ a ≤ 16 := by unfold isA at ha; omega
    refine X_unitsFor _ q ?_
    rw [eb, nI_add, show (2 : Int32) = nI 2 from rfl, nI_add]
    refine X_take h w (by omega) (by omega) (fun k β σ' ht wb hx hk hl => ?_) (fun ht => ⟨fun z => absurd rfl z, fun _ => pN q a ha eb ht⟩)
    refine ⟨fun _ => ?_, fun z => absurd z (s_m1 (by omega))⟩
    obtain ⟨-, -, hT⟩ := TK_wf w (by omega) ht
    obtain ⟨-, hs, -⟩ := TK_kp w (by omega) ht
    have g := wb.ge
    have hE := wb.2.1
    have hSk := g.sz hk
    have lm : (a_F β k + 1) % a < a := Nat.mod_lt _ (by omega)
    have l71 : ∀ (γ : AS) (σ2 : XS) (o : Nat), WF n γ → XR n γ σ2 → o < a_c γ → a_T γ o = 0 → uf v ≤ a_S γ o → ∀ f, a_F γ o = a_F β k + f → (∀ σ3, XR n (aSh γ o (uf v)) σ3 → post (nI (a_F β k + f + 1)) σ3) → wX_align_71 n (nI n) σ2 (nI (uf v)) (nI (a_F β k)) (nI f) post := by
      intro γ σ2 o wg hxg ho hTo hso f eF hp
      have lo := wg.ge.le (Nat.le_of_lt ho)
      unfold wX_align_71
      rw [nI_add, ← eF]
      refine X_shorten _ hxg wg ho hTo l1 hso (fun σ3 hx3 => ?_)
      unfold wX_pointerTo
      rw [s_1, eF]
      exact ⟨fun _ => hp σ3 hx3, fun z => absurd z (s_m1 (by omega))⟩
    unfold wX_unitsInFront
    rw [s_1, pk_rem (by omega) (by omega) (by omega), s_sub (by omega), show (2 : Int32) = nI 2 from rfl, s_le (by omega) (by omega), nI_add]
    have two : ¬ (a_F β k + 1) % a = 0 → ∀ f, f = fr (a_F β k + 1) a → ((nI f ≤ 0 → wX_align_71 n (nI n) σ' (nI (uf v)) (nI (a_F β k)) (nI f) post) ∧ (¬ nI f ≤ 0 → wX_cut n (nI n) σ' (nI (a_F β k)) (nI f) 0 (fun r61 σ61 => wX_release n (nI n) σ61 (nI (a_F β k)) (fun σ68 => wX_align_71 n (nI n) σ68 (nI (uf v)) (nI (a_F β k)) (nI f) post)))) := by
      intro y f ef
      subst ef
      obtain ⟨f1, f2⟩ := fr_spec (p := a_F β k + 1) ha
      obtain ⟨w1, t0, w2, o, ho, oF, oS, oT⟩ := fr_wf wb hk hT f1 (by omega)
      refine ⟨fun z => absurd ((s_le (b := 0) (by omega) (by omega)).mp z) (by omega), fun _ => ?_⟩
      refine X_cut (nI n) 0 (hx.1.z hk) (by omega) (by omega) (by omega) (by omega) (by decide) (fun y => by omega) (fun y2 => ?_)
      have h1 := XR.cut0 hx g hk f1 y2 hT (wb.nV hk hT)
      have r := X_release (nI n) h1 w1 (show k < a_c β + 1 by omega) t0 (post := fun σ68 => wX_align_71 n (nI n) σ68 (nI (uf v)) (nI (a_F β k)) (nI (fr (a_F β k + 1) a)) post) (fun σ2 hx2 => l71 _ σ2 o w2 hx2 ho oT (by omega) _ oF (fun σ3 hx3 => by
        have r := p2 q a ha eb k β o σ3 ht y ho oF hx3
        rw [show a_F β k + 1 + fr (a_F β k + 1) a = a_F β k + fr (a_F β k + 1) a + 1 by omega] at r
        exact r))
      rw [show a_F (a_part (a_sT β k 0) k (fr (a_F β k + 1) a) 0) k = a_F β k from a_ins_lo (Nat.le_refl _)] at r
      exact r
    refine ⟨fun z => ?_, fun z => ⟨fun z2 => ?_, fun z2 => ?_⟩, fun z => ?_⟩
    · have := (s_eq (b := 0) (by omega) (by omega)).mp z; omega
    · have y : ¬ (a_F β k + 1) % a = 0 := fun y => z (by rw [y]; rfl)
      exact two y _ (by unfold fr; rw [if_pos z2])
    · have y : ¬ (a_F β k + 1) % a = 0 := fun y => z (by rw [y]; rfl)
      exact two y _ (by unfold fr; rw [if_neg z2])
    · have y := (s_eq (b := 0) (by omega) (by omega)).mp z
      refine ⟨fun _ => l71 β σ' k wb hx hk hT (by omega) 0 rfl (fun σ3 hx3 => p1 q a ha eb k β σ3 ht y hx3), fun z => absurd (by decide) z⟩
  refine ⟨fun q => p0 (Or.inl (Int32.not_le.mpr q)), fun q => ?_⟩
  have q : v ≤ 511 := Int32.not_lt.mp q
  have one : ∀ a, isA a → b = nI a → _ := fun a ha eb => body q a ha eb
  refine ⟨fun e => ⟨fun _ => one 2 (Or.inl rfl) e, fun z => absurd z (by decide)⟩, fun e2 => ⟨fun e => ⟨fun _ => one 4 (Or.inr (Or.inl rfl)) e, fun z => absurd z (by decide)⟩, fun e4 => ⟨fun e => ⟨fun _ => one 8 (Or.inr (Or.inr (Or.inl rfl))) e, fun z => absurd z (by decide)⟩, fun e8 => ⟨fun e16 => ⟨fun z => absurd rfl z, fun _ => p0 (Or.inr (fun a ha eb => ?_))⟩, fun e => ⟨fun _ => one 16 (Or.inr (Or.inr (Or.inr rfl))) e, fun z => absurd z (by decide)⟩⟩⟩⟩⟩
  rcases ha with rfl | rfl | rfl | rfl
  · exact e2 eb
  · exact e4 eb
  · exact e8 eb
  · exact e16 eb
theorem M_alignloop {lim : Int32} {μ : MS} {a p : Nat} (ha : isA a) (hp : p < 10000) (h : ¬ p % a = 0) (v3 v4 : Int32) {post : Int32 → MS → Prop} (hq : wM_align_97 lim μ v3 v4 (nI p) (nI (fr p a)) post) : ∃ f, wM_align_81 lim post f μ (nI a) v3 v4 (nI p) 2 := by
  obtain ⟨f1, f2⟩ := fr_spec (p := p) ha
  obtain ⟨m0, mi⟩ := fr_mod ha h
  have a16 : 2 ≤ a ∧ a ≤ 16 := by unfold isA at ha; omega
  have key : ∀ f i, 2 ≤ i → i ≤ fr p a → fr p a < i + f → wM_align_81 lim post f μ (nI a) v3 v4 (nI p) (nI i) := by
    intro f
    induction f with
    | zero => intro i h0 h1 h2; omega
    | succ f ih =>
      intro i h0 h1 h2
      show wM_align_81_s lim post (wM_align_81 lim post f) μ (nI a) v3 v4 (nI p) (nI i)
      have lm : (p + i) % a < a := Nat.mod_lt _ (by omega)
      unfold wM_align_81_s
      rw [nI_add, pk_rem (by omega) (by omega) (by omega), s_1]
      refine ⟨fun z => ?_, fun z => ?_, fun z => ?_⟩
      · have := (s_eq (b := 0) (by omega) (by omega)).mp z; omega
      · have y := (s_eq (b := 0) (by omega) (by omega)).mp z
        have e : i = fr p a := by
          rcases Nat.lt_or_ge i (fr p a) with x | x
          · exact absurd y (mi i h0 x)
          · omega
        subst e
        exact hq
      · have ne : i ≠ fr p a := fun e => by
          subst e
          exact z (by rw [m0]; rfl)
        exact ih (i + 1) (by omega) (by omega) (by omega)
  exact ⟨fr p a, key (fr p a) 2 (by omega) f1 (by omega)⟩
theorem M_align {n : Nat} {α : AS} {μ : MS} (h : MR α μ) (w : WF n α) (v b : Int32) {post : Int32 → MS → Prop}
    (p0 : (¬ v ≤ 511 ∨ ∀ a, isA a → ¬ b = nI a) → post 0 μ)
    (pN : v ≤ 511 → ∀ a, isA a → b = nI a → TN n α (uf v + a + 2) → post 0 μ)
    (p1 : v ≤ 511 → ∀ a, isA a → b = nI a → ∀ k β μ', TK n α (uf v + a + 2) k β → (a_F β k + 1) % a = 0 → MR (aSh β k (uf v)) μ' → post (nI (a_F β k + 1)) μ')
    (p2 : v ≤ 511 → ∀ a, isA a → b = nI a → ∀ k β o μ', TK n α (uf v + a + 2) k β → ¬ (a_F β k + 1) % a = 0 → o < a_c (aFr β k (fr (a_F β k + 1) a)) → a_F (aFr β k (fr (a_F β k + 1) a)) o = a_F β k + fr (a_F β k + 1) a → MR (aSh (aFr β k (fr (a_F β k + 1) a)) o (uf v)) μ' → post (nI (a_F β k + 1 + fr (a_F β k + 1) a)) μ') : wM_align (nI n) μ v b post := by
  have hn := w.2.2.1
  have body : v ≤ 511 → ∀ a, isA a → b = nI a → wM_align_41 (nI n) μ b (nI (uf v - 1)) post := by
    intro q a ha eb
    obtain ⟨e, l1, l2⟩ := uf_spec q
    have a16 : 2 ≤ a ∧ a ≤ 16 := by unfold isA at ha; omega
    unfold wM_align_41
    rw [eb, nI_add, show (3 : Int32) = nI 3 from rfl, nI_add, show uf v - 1 + a + 3 = uf v + a + 2 by omega]
    refine M_take h w (by omega) (by omega) (fun k β μ' ht hm => ?_) (fun ht => ⟨fun z => absurd z (by decide), fun _ => pN q a ha eb ht⟩)
    obtain ⟨wb, hk, hT⟩ := TK_wf w (by omega) ht
    obtain ⟨-, hs, -⟩ := TK_kp w (by omega) ht
    have g := wb.ge
    have hc := g.c
    have hE := wb.2.1
    have hSk := g.sz hk
    have lm : (a_F β k + 1) % a < a := Nat.mod_lt _ (by omega)
    rw [s_cl (show k < 100000 by omega), hm.fi hk, s_1, pk_rem (by omega) (by omega) (by omega)]
    have l128 : ∀ (γ : AS) (μ2 : MS) (o : Nat), WF n γ → MR γ μ2 → o < a_c γ → uf v ≤ a_S γ o → ∀ p, p = a_F γ o + 1 → (∀ μ3, MR (aSh γ o (uf v)) μ3 → post (nI p) μ3) → wM_align_128 (nI n) μ2 (nI (uf v - 1)) (nI p) post := by
      intro γ μ2 o wg hmg ho hso p ep hp
      unfold wM_align_128
      rw [s_m p (by omega), show p - 1 = a_F γ o by omega, s_1, show uf v - 1 + 1 = uf v by omega]
      exact M_atk _ hmg wg.ge ho (M_shorten _ hmg wg.ge ho l1 hso hp)
    refine ⟨fun _ => ⟨s_in (by omega) (by omega), fun z => ?_, fun z => ?_, fun z => ?_⟩, fun z => absurd (s_pos' (by omega)) z⟩
    · have := (s_eq (b := 0) (by omega) (by omega)).mp z; omega
    · have y := (s_eq (b := 0) (by omega) (by omega)).mp z
      exact l128 β μ' k wb hm hk (by omega) _ rfl (fun μ3 hm3 => p1 q a ha eb k β μ3 ht y hm3)
    · have y : ¬ (a_F β k + 1) % a = 0 := fun y => z (by rw [y]; rfl)
      refine M_alignloop ha (by omega) y _ _ ?_
      obtain ⟨f1, f2⟩ := fr_spec (p := a_F β k + 1) ha
      obtain ⟨w1, t0, w2, o, ho, oF, oS, oT⟩ := fr_wf wb hk hT f1 (by omega)
      unfold wM_align_97
      refine M_part _ hm g (v := 5) hk (by omega) (by decide) (fun μ2 hm2 => ?_)
      rw [s_1, s_cl (show k + 1 < 100000 by omega), nI_add]
      refine ⟨s_in (by omega) (by omega), ?_⟩
      have hm3 := hm2.use (k := k + 1) (show k + 1 < a_c β + 1 by omega)
      rw [← part0_eq β hT] at hm3
      refine M_give _ hm3 w1.ge (show k < a_c β + 1 by omega) (fun μ4 hm4 => ?_)
      exact l128 _ μ4 o w2 hm4 ho (by omega) _ (by omega) (fun μ5 hm5 => p2 q a ha eb k β o μ5 ht y ho oF hm5)
  refine ⟨fun q => p0 (Or.inl (Int32.not_le.mpr q)), fun q => ?_⟩
  have q : v ≤ 511 := Int32.not_lt.mp q
  have l1 := (uf_spec q).2.1
  have em := uf_mod q
  have one : ∀ a, isA a → b = nI a → ((1 ≤ v → wM_align_41 (nI n) μ b v post) ∧ (¬ 1 ≤ v → wM_align_41 (nI n) μ b 1 post)) := by
    intro a ha eb
    have r := body q a ha eb
    refine ⟨fun y => ?_, fun y => ?_⟩
    · have e : v = nI (uf v - 1) := by
        have z := em.1 y
        rw [← s_m _ (by omega), ← z, Int32.add_sub_cancel]
      rw [← e] at r
      exact r
    · have e : (1 : Int32) = nI (uf v - 1) := by
        have z := em.2 y
        rw [← s_m _ (by omega), ← z]
        rfl
      rw [← e] at r
      exact r
  refine ⟨fun e => one 2 (Or.inl rfl) e, fun e2 => ⟨fun e => one 4 (Or.inr (Or.inl rfl)) e, fun e4 => ⟨fun e => one 8 (Or.inr (Or.inr (Or.inl rfl))) e, fun e8 => ⟨fun e => one 16 (Or.inr (Or.inr (Or.inr rfl))) e, fun e16 => p0 (Or.inr (fun a ha eb => ?_))⟩⟩⟩⟩
  rcases ha with rfl | rfl | rfl | rfl
  · exact e2 eb
  · exact e4 eb
  · exact e8 eb
  · exact e16 eb
theorem isA_inj {a a2 : Nat} (h : isA a) (h2 : isA a2) {b : Int32} (e : b = nI a) (e2 : b = nI a2) : a = a2 := by
  unfold isA at h h2
  exact (s_eq (by omega) (by omega)).mp (e.symm.trans e2)
theorem sim_align {n k : Nat} {σ : XS} {μ : MS} (v b : Int32) (hr : Rel n k σ μ) : wX_align n (nI n) σ v b (fun r σ1 => wM_align (nI n) μ v b (fun r1 μ1 => r = r1 ∧ Rel n (k + 1) σ1 μ1)) := by
  obtain ⟨h16, α, w, hm, hx⟩ := hr
  have no : ∀ {P : Prop} {a : Nat}, v ≤ 511 → isA a → b = nI a → (¬ v ≤ 511 ∨ ∀ a, isA a → ¬ b = nI a) → P := fun q ha eb z => (z.elim (fun y => y q) (fun y => y _ ha eb)).elim
  refine X_align hx w v b (fun q => ?_) (fun q a ha eb ht => ?_) (fun q a ha eb i β σ' ht y hx2 => ?_) (fun q a ha eb i β o σ' ht y ho oF hx2 => ?_)
  · exact M_align hm w v b (fun _ => ⟨rfl, h16, α, w, hm, hx⟩) (fun q2 a ha eb => no q2 ha eb q) (fun q2 a ha eb => no q2 ha eb q) (fun q2 a ha eb => no q2 ha eb q)
  · refine M_align hm w v b (fun z => no q ha eb z) (fun _ a2 ha2 eb2 ht2 => ⟨rfl, h16, α, w, hm, hx⟩) (fun _ a2 ha2 eb2 i2 β2 μ' ht2 => ?_) (fun _ a2 ha2 eb2 i2 β2 o2 μ' ht2 => ?_)
    all_goals
      have := isA_inj ha ha2 eb eb2
      subst this
      exact (TK_no ht2 ht).elim
  all_goals
    have a16 : 2 ≤ a ∧ a ≤ 16 := by unfold isA at ha; omega
    have l1 := (uf_spec q).2.1
    obtain ⟨wb, hi, hT⟩ := TK_wf w (by omega) ht
    obtain ⟨-, hs, -⟩ := TK_kp w (by omega) ht
  · refine M_align hm w v b (fun z => no q ha eb z) (fun _ a2 ha2 eb2 ht2 => ?_) (fun _ a2 ha2 eb2 i2 β2 μ' ht2 y2 hm2 => ?_) (fun _ a2 ha2 eb2 i2 β2 o2 μ' ht2 y2 => ?_)
    all_goals
      have := isA_inj ha ha2 eb eb2
      subst this
    · exact (TK_no ht ht2).elim
    · obtain ⟨rfl, rfl⟩ := TK_uniq w ht ht2
      exact ⟨rfl, h16, _, wb.short hi hT l1, hm2, hx2⟩
    · obtain ⟨rfl, rfl⟩ := TK_uniq w ht ht2
      exact absurd y y2
  · obtain ⟨f1, f2⟩ := fr_spec (p := a_F β i + 1) ha
    obtain ⟨w1, t0, w2, o3, ho3, oF3, oS3, oT3⟩ := fr_wf wb hi hT f1 (by omega)
    have := w2.ge.inj (Nat.le_of_lt ho) (Nat.le_of_lt ho3) (oF.trans oF3.symm)
    subst this
    refine M_align hm w v b (fun z => no q ha eb z) (fun _ a2 ha2 eb2 ht2 => ?_) (fun _ a2 ha2 eb2 i2 β2 μ' ht2 y2 hm2 => ?_) (fun _ a2 ha2 eb2 i2 β2 o2 μ' ht2 y2 ho2 oF2 hm2 => ?_)
    all_goals
      have := isA_inj ha ha2 eb eb2
      subst this
    · exact (TK_no ht ht2).elim
    · obtain ⟨rfl, rfl⟩ := TK_uniq w ht ht2
      exact absurd y2 y
    · obtain ⟨rfl, rfl⟩ := TK_uniq w ht ht2
      have := w2.ge.inj (Nat.le_of_lt ho) (Nat.le_of_lt ho2) (oF.trans oF2.symm)
      subst this
      exact ⟨rfl, h16, _, w2.short ho oT3 l1, hm2, hx2⟩
