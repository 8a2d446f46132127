theorem cutV_k (α : AS) {v s : Nat} (hv : v < a_c α) : v < a_c (cutV α v s) ∧ a_T (cutV α v s) v = 0 := by
  unfold cutV
  split
  · exact ⟨hv, up_at⟩
  · refine ⟨show v < a_c α + 1 by omega, ?_⟩
    show a_ins (va_up (a_T α) v 0) v 3 v = 0
    rw [a_ins_lo (Nat.le_refl _), up_at]
theorem cutT_k (α : AS) {v s : Nat} (hv : v < a_c α) : v < a_c (cutT α v s) ∧ a_T (cutT α v s) v = 0 := by
  unfold cutT
  split
  · exact ⟨hv, up_at⟩
  · refine ⟨show v < a_c α + 1 by omega, ?_⟩
    show a_ins (va_up (a_T α) v 0) v 4 v = 0
    rw [a_ins_lo (Nat.le_refl _), up_at]
theorem cutS_k (α : AS) {v s : Nat} (hv : v < a_c α) : v < a_c (cutS α v s) ∧ a_T (cutS α v s) v = 0 := by
  unfold cutS
  split
  · exact ⟨hv, up_at⟩
  · refine ⟨show v < a_c α + 1 by omega, ?_⟩
    show va_up (a_ins (va_up (a_T α) v 0) v 5) (v + 1) _ v = 0
    rw [up_ne (by omega), a_ins_lo (Nat.le_refl _), up_at]
theorem TK_wf {n : Nat} {α : AS} (w : WF n α) {s k : Nat} {β : AS} (h2 : 2 ≤ s) (h : TK n α s k β) : WF n β ∧ k < a_c β ∧ a_T β k = 0 := by
  rcases h with ⟨a, h⟩ | ⟨a, h⟩ | ⟨a, h⟩
  · rcases h with ⟨b, rfl⟩ | ⟨-, b1, b2, b3, rfl⟩ | ⟨-, -, b, c⟩
    · exact ⟨w.use b.1 (w.st b.1 b.2.1.1).2.2.2, b.1, up_at⟩
    · exact ⟨w.kV b1 b2 h2, cutV_k α b1⟩
    · rcases c with ⟨-, rfl⟩ | ⟨c1, c2, rfl⟩ | ⟨c1, v, c2, c3, rfl⟩
      · exact ⟨w.use b.1 (w.st b.1 b.2.1.1).2.2.2, b.1, up_at⟩
      · have hb := b.1
        refine ⟨w.kN0 b.1 b.2.1.1 h2 c1 c2, show k < a_c α + 1 by omega, ?_⟩
        show a_ins (va_up (a_T α) k 0) k 3 k = 0
        rw [a_ins_lo (Nat.le_refl _), up_at]
      · have hb := b.1
        have hne : v ≠ k := fun e => (w.st b.1 b.2.1.1).2.2.2 (by rw [← e]; exact c3)
        refine ⟨w.kN1 b.1 b.2.1.1 h2 c1 c2 c3, show k < a_c α + 1 by omega, ?_⟩
        rw [cutN1_eq α hne]
        show a_ins (va_up (va_up (a_T α) v _) k 0) k 3 k = 0
        rw [a_ins_lo (Nat.le_refl _), up_at]
  · rcases h with ⟨b, -, rfl⟩ | ⟨b1, b2, b3, -, rfl⟩
    · exact ⟨w.kS b.1 b.2.1.1 h2, cutS_k α b.1⟩
    · exact ⟨w.kV b1 b2 h2, cutV_k α b1⟩
  · rcases h with ⟨b1, b2, b3, rfl⟩ | ⟨b1, b2, b3, b4, rfl⟩ | ⟨b1, b2, rfl, rfl⟩
    · exact ⟨w.kT (by omega) b2 h2, cutT_k α (by omega)⟩
    · have w1 := w.growT b1 b2 b4
      exact ⟨w1.kT (show k < a_c α by omega) b2 h2, cutT_k _ (show k < a_c α by omega)⟩
    · have w1 := w.grow0 b1 (m := up16 s) (by unfold up16; omega) b2
      exact ⟨w1.kT (show a_c α < a_c α + 1 by omega) up_at h2, cutT_k _ (show a_c α < a_c α + 1 by omega)⟩
def uf (v : Int32) : Nat := if v < 1 then 2 else v.toNatClampNeg + 1
theorem uf_spec {v : Int32} (h : v ≤ 511) : (if v < 1 then 1 else v) + 1 = nI (uf v) ∧ 2 ≤ uf v ∧ uf v ≤ 512 := by
  unfold uf
  by_cases q : v < 1
  · rw [if_pos q, if_pos q]; decide
  · rw [if_neg q, if_neg q]
    obtain ⟨j, hj, e⟩ := nI_of (x := v) (fun z => q (Int32.lt_trans z (by decide)))
    rw [e] at h q ⊢
    have h1 := (nI_leI (b := 511) hj (by decide)).mp h
    have h2 : ¬ j < 1 := fun z => q ((nI_ltI (b := 1) hj (by decide)).mpr z)
    rw [nI_clamp hj, s_1]
    exact ⟨rfl, by omega, by omega⟩
theorem uf_mod {v : Int32} (h : v ≤ 511) : (1 ≤ v → v + 1 = nI (uf v)) ∧ (¬ 1 ≤ v → (2 : Int32) = nI (uf v)) := by
  have e := (uf_spec h).1
  refine ⟨fun q => ?_, fun q => ?_⟩
  · rw [if_neg (Int32.not_lt.mpr q)] at e; exact e
  · unfold uf
    rw [if_pos (Int32.not_le.mp q)]; rfl
theorem X_malloc {n : Nat} {α : AS} {σ : XS} (h : XR n α σ) (w : WF n α) (v : Int32) {post : Int32 → XS → Prop} (h1 : v ≤ 511 → ∀ k β σ', TK n α (uf v) k β → XR n β σ' → post (nI (a_F β k + 1)) σ') (h2 : (¬ v ≤ 511 ∨ TN n α (uf v)) → post 0 σ) : wX_malloc n (nI n) σ v post := by
  refine ⟨fun q => ?_, fun q => h2 (Or.inl q)⟩
  obtain ⟨e, l1, l2⟩ := uf_spec q
  unfold wX_unitsFor
  rw [e]
  refine X_take h w l1 (by omega) (fun k β σ' ht wb hx hk hl => ?_) (fun ht => ?_)
  · unfold wX_pointerTo
    rw [s_1]
    exact ⟨fun _ => h1 q k β σ' ht hx, fun z => absurd z (s_m1 (by omega))⟩
  · exact ⟨fun z => absurd rfl z, fun _ => h2 (Or.inr ht)⟩
theorem M_malloc {n : Nat} {α : AS} {μ : MS} (h : MR α μ) (w : WF n α) (v : Int32) {post : Int32 → MS → Prop} (h1 : v ≤ 511 → ∀ k β μ', TK n α (uf v) k β → MR β μ' → post (nI (a_F β k + 1)) μ') (h2 : (¬ v ≤ 511 ∨ TN n α (uf v)) → post 0 μ) : wM_malloc (nI n) μ v post := by
  refine ⟨fun q => ?_, fun q => h2 (Or.inl q)⟩
  obtain ⟨e, l1, l2⟩ := uf_spec q
  have em := uf_mod q
  have body : wM_malloc_22 (nI n) μ (nI (uf v)) post := by
    unfold wM_malloc_22
    refine M_take h w l1 (by omega) (fun k β μ' ht hm => ?_) (fun ht => ?_)
    · obtain ⟨wb, hk, -⟩ := TK_wf w l1 ht
      have hc := wb.ge.c
      rw [s_cl (show k < 100000 by omega), hm.fi hk, s_1]
      exact ⟨fun _ => ⟨s_in (by omega) (by omega), h1 q k β μ' ht hm⟩, fun z => absurd (s_pos' (by omega)) z⟩
    · exact ⟨fun z => absurd z (by decide), fun _ => h2 (Or.inr ht)⟩
  refine ⟨fun y => ?_, fun y => ?_⟩
  · rw [em.1 y]; exact body
  · rw [em.2 y]; exact body
theorem sim_malloc {n k : Nat} {σ : XS} {μ : MS} (a : Int32) (hr : Rel n k σ μ) : wX_malloc n (nI n) σ a (fun r σ1 => wM_malloc (nI n) μ a (fun r1 μ1 => r = r1 ∧ Rel n (k + 1) σ1 μ1)) := by
  obtain ⟨h16, α, w, hm, hx⟩ := hr
  refine X_malloc hx w a (fun q i β σ' ht hx2 => ?_) (fun q => ?_)
  · have l1 := (uf_spec q).2.1
    refine M_malloc hm w a (fun _ i2 β2 μ' ht2 hm2 => ?_) (fun q2 => ?_)
    · obtain ⟨rfl, rfl⟩ := TK_uniq w ht ht2
      exact ⟨rfl, h16, β, (TK_wf w l1 ht).1, hm2, hx2⟩
    · rcases q2 with z | z
      · exact absurd q z
      · exact (TK_no ht z).elim
  · refine M_malloc hm w a (fun q2 i2 β2 μ' ht2 hm2 => ?_) (fun _ => ⟨rfl, h16, α, w, hm, hx⟩)
    rcases q with z | z
    · exact absurd q2 z
    · exact (TK_no ht2 z).elim
theorem sim_free {n k : Nat} {σ : XS} {μ : MS} (a : Int32) (hr : Rel n k σ μ) : wX_free n (nI n) σ a (fun r σ1 => wM_free (nI n) μ a (fun r1 μ1 => r = r1 ∧ Rel n (k + 1) σ1 μ1)) := by
  obtain ⟨h16, α, w, hm, hx⟩ := hr
  have g := w.ge
  have hc := g.c
  unfold wX_free
  refine X_isPointer _ hx w a (fun j hj => ⟨fun _ => ?_, fun y => absurd y (by decide)⟩) (fun z => ⟨fun y => absurd rfl y, fun _ => ?_⟩)
  · rw [(i_sub1.mpr hj.2.1).symm]
    refine X_release _ hx w hj.1 hj.2.2 (fun σ' hx2 => ?_)
    unfold wM_free
    refine M_holder _ hm w a (fun j2 hj2 => ?_) (fun z => absurd hj (z j))
    have := hj.uniq w hj2
    subst this
    have hj1 := hj.1
    exact ⟨fun _ => M_give _ hm g hj.1 (fun μ' hm2 => ⟨rfl, h16, _, w.give hj.1 hj.2.2, hm2, hx2⟩), fun y => absurd (s_pos' (by omega)) y⟩
  · unfold wM_free
    exact M_holder _ hm w a (fun j2 hj2 => absurd hj2 (z j2)) (fun _ => ⟨fun y => absurd y (by decide), fun _ => ⟨rfl, h16, α, w, hm, hx⟩⟩)
theorem M_callocloop {α : AS} {μ : MS} (lim : Int32) (h : MR α μ) (g : GE α) {j : Nat} (hj : j < a_c α) (v2 : Int32) {post : Int32 → MS → Prop} (hp : ∀ μ', MR (a_sun α (x_fl (a_un α) (a_F α j + 1) (a_F α j + a_S α j) 0)) μ' → post v2 μ') : ∃ f, wM_calloc_15 lim post f μ v2 (nI j) (nI (a_F α j + 1)) := by
  have hc := g.c
  have hS := g.sz hj
  have hS2 := g.2.1 j hj
  obtain ⟨un, fi, sz, us, ca, en, ch, cl, vi⟩ := μ
  have key : ∀ f i, a_F α j + 1 ≤ i → i ≤ a_F α j + a_S α j → a_F α j + a_S α j < i + f → wM_calloc_15 lim post f (x_fl un (a_F α j + 1) i 0, fi, sz, us, ca, en, ch, cl, vi) v2 (nI j) (nI i) := by
    intro f
    induction f with
    | zero => intro i h1 h2; omega
    | succ f ih =>
      intro i h1 h2 h3
      show wM_calloc_15_s lim post (wM_calloc_15 lim post f) (x_fl un (a_F α j + 1) i 0, fi, sz, us, ca, en, ch, cl, vi) v2 (nI j) (nI i)
      unfold wM_calloc_15_s
      have i0 : vp_in (nI j) 258 := s_in (by omega) (by omega)
      rw [s_cl (show j < 100000 by omega), s_cl (show i < 100000 by omega), show m_fi (x_fl un (a_F α j + 1) i 0, fi, sz, us, ca, en, ch, cl, vi) j = nI (a_F α j) from h.fi hj, show m_sz (x_fl un (a_F α j + 1) i 0, fi, sz, us, ca, en, ch, cl, vi) j = nI (a_S α j) from h.sz hj, nI_add, s_le (by omega) (by omega), s_1]
      refine ⟨fun z => absurd z (s_pos (by omega)), fun _ => ⟨i0, i0, fun z => hp _ ?_, fun z => ⟨s_in (by omega) (by omega), ?_⟩⟩⟩
      · have : i = a_F α j + a_S α j := by omega
        subst this
        refine ⟨h.1, h.2.1, h.2.2.1, h.2.2.2.1, ?_, h.2.2.2.2.2⟩
        show x_fl un _ _ 0 = x_fl (a_un α) _ _ 0
        rw [show un = a_un α from h.un]
      · have r := ih (i + 1) (by omega) (by omega) (by omega)
        rw [← x_fl_s un 0 h1] at r
        exact r
  refine ⟨a_S α j + 1, ?_⟩
  have r := key (a_S α j + 1) (a_F α j + 1) (by omega) (by omega) (by omega)
  rw [x_fl_0] at r
  exact r
theorem sim_calloc {n k : Nat} {σ : XS} {μ : MS} (a : Int32) (hr : Rel n k σ μ) : wX_calloc n (nI n) σ a (fun r σ1 => wM_calloc (nI n) μ a (fun r1 μ1 => r = r1 ∧ Rel n (k + 1) σ1 μ1)) := by
  obtain ⟨h16, α, w, hm, hx⟩ := hr
  have z0 : ∀ β : AS, WF n β → ∀ j, ¬ Ptr β 0 j := fun β wb j hj => by
    have l := wb.ge.le (Nat.le_of_lt hj.1)
    have := (s_eq (a := 0) (by omega) (by omega)).mp hj.2.1
    omega
  unfold wX_calloc
  refine X_malloc hx w a (fun q i β σ' ht hx2 => ?_) (fun q => ?_)
  · have l1 := (uf_spec q).2.1
    obtain ⟨wb, hi, hT⟩ := TK_wf w l1 ht
    have gb := wb.ge
    have hE := wb.2.1
    have hn := wb.2.2.1
    have hS := gb.sz hi
    have hS2 := gb.2.1 i hi
    have hP : Ptr β (nI (a_F β i + 1)) i := ⟨hi, rfl, hT⟩
    refine X_isPointer _ hx2 wb _ (fun j hj => ⟨fun y => absurd y (by decide), fun _ => ?_⟩) (fun z => absurd hP (z i))
    refine X_usable _ hx2 wb _ (fun j2 hj2 => ?_) (fun z => absurd hP (z i))
    have := hj2.uniq wb hP
    subst this
    rw [nI_add, s_cl (by omega), s_cl (by omega), s_lt (by omega) (by omega), s_lt (by omega) (by omega)]
    refine ⟨⟨by omega, s_pos (by omega), by omega, by omega⟩, ?_⟩
    unfold wM_calloc
    refine M_malloc hm w a (fun _ i2 β2 μ' ht2 hm2 => ?_) (fun q2 => ?_)
    · obtain ⟨rfl, rfl⟩ := TK_uniq w ht ht2
      refine M_holder _ hm2 wb _ (fun j3 hj3 => ?_) (fun z => absurd hP (z j2))
      have := hj3.uniq wb hP
      subst this
      refine M_callocloop _ hm2 gb hi _ (fun μ3 hm3 => ⟨rfl, h16, _, ?_, hm3, ?_⟩)
      · exact wb
      · refine ⟨hx2.1, hx2.2.1, hx2.2.2.1, hx2.2.2.2.1, hx2.2.2.2.2.1, hx2.2.2.2.2.2.1, fun c hc => ?_⟩
        have hc : c < a_F β (a_c β) := hc
        show x_fl (x_u σ') (a_F β j3 + 1) (a_F β j3 + 1 + (a_S β j3 - 1)) 0 c = x_fl (a_un β) (a_F β j3 + 1) (a_F β j3 + a_S β j3) 0 c
        rw [show a_F β j3 + 1 + (a_S β j3 - 1) = a_F β j3 + a_S β j3 by omega]
        unfold x_fl
        split
        · rfl
        · exact hx2.2.2.2.2.2.2 c hc
    · rcases q2 with z | z
      · exact absurd q z
      · exact (TK_no ht z).elim
  · refine X_isPointer _ hx w _ (fun j hj => absurd hj (z0 α w j)) (fun _ => ⟨fun _ => ?_, fun y => absurd rfl y⟩)
    unfold wM_calloc
    refine M_malloc hm w a (fun q2 i2 β2 μ' ht2 hm2 => ?_) (fun _ => ?_)
    · rcases q with z | z
      · exact absurd q2 z
      · exact (TK_no ht2 z).elim
    · refine M_holder _ hm w _ (fun j hj => absurd hj (z0 α w j)) (fun _ => ⟨1, ⟨fun _ => ⟨rfl, h16, α, w, hm, hx⟩, fun y => absurd (by decide) y⟩⟩)
