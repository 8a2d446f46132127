def Rel (n _k : Nat) (σ : XS) (μ : MS) : Prop := 16 ≤ n ∧ ∃ α, WF n α ∧ MR α μ ∧ XR n α σ
def Ptr (α : AS) (p : Int32) (j : Nat) : Prop := j < a_c α ∧ p = nI (a_F α j + 1) ∧ a_T α j = 0
theorem Ptr.uniq {n : Nat} {α : AS} (w : WF n α) {p : Int32} {i j : Nat} (h1 : Ptr α p i) (h2 : Ptr α p j) : i = j := by
  have g := w.ge
  have l1 := g.le (Nat.le_of_lt h1.1)
  have l2 := g.le (Nat.le_of_lt h2.1)
  have := (s_eq (by omega) (by omega)).mp (h1.2.1.symm.trans h2.2.1)
  exact g.inj (Nat.le_of_lt h1.1) (Nat.le_of_lt h2.1) (by omega)
theorem i_sub1 {p : Int32} {a : Nat} : nI a = p - 1 ↔ p = nI (a + 1) := by
  constructor
  · intro h
    rw [← s_1, h, Int32.sub_add_cancel]
  · intro h
    rw [h, s_m _ (by omega)]
    rfl
theorem M_holder {n : Nat} {α : AS} {μ : MS} (lim : Int32) (h : MR α μ) (w : WF n α) (p : Int32) {post : Int32 → MS → Prop} (h1 : ∀ j, Ptr α p j → post (nI j) μ) (h2 : (∀ j, ¬ Ptr α p j) → post (-1) μ) : wM_holder lim μ p post := by
  have g := w.ge
  have hc := g.c
  have neg : (∀ j, ¬ Ptr α p j) → wM_holder_16 lim μ (-1) post := fun z => ⟨fun _ => h2 z, fun y => absurd (by decide) y⟩
  refine ⟨fun q => ?_, fun q => neg (fun j hj => ?_)⟩
  · refine M_at lim h g _ (fun k hk e => ?_) (fun e => neg (fun j hj => e j hj.1 (i_sub1.mpr hj.2.1)))
    have e := i_sub1.mp e
    unfold wM_holder_16
    rw [s_cl (show k < 100000 by omega)]
    refine ⟨fun y => absurd y (s_pos (by omega)), fun _ => ⟨s_in (by omega) (by omega), fun y => h2 (fun j hj => ?_), fun y => h1 k ⟨hk, e, ?_⟩⟩⟩
    · have l1 := g.le (Nat.le_of_lt hj.1)
      have l2 := g.le (Nat.le_of_lt hk)
      have z := (s_eq (by omega) (by omega)).mp (hj.2.1.symm.trans e)
      have z2 := g.inj (Nat.le_of_lt hj.1) (Nat.le_of_lt hk) (by omega)
      subst z2
      exact (h.us0 hj.1).mp y hj.2.2
    · exact Decidable.byContradiction fun z => y ((h.us0 hk).mpr z)
  · have l1 := g.le (Nat.le_of_lt hj.1)
    rw [hj.2.1] at q
    exact q ((s_le (a := 1) (by omega) (by omega)).mpr (by omega))
theorem X_isChunk {n : Nat} {α : AS} (lim : Int32) {σ : XS} (h : XR n α σ) (w : WF n α) (v : Int32) {post : Int32 → XS → Prop} (h1 : ∀ j, j < a_c α → v = nI (a_F α j) → post 1 σ) (h2 : (∀ j, j < a_c α → ¬ v = nI (a_F α j)) → post 0 σ) : wX_isChunk n lim σ v post := by
  have g := w.ge
  have hE := w.2.1
  have hn := w.2.2.1
  by_cases q : v < 0
  · refine ⟨fun _ => h2 (fun j hj e => ?_), fun z => absurd q z⟩
    have l1 := g.le (Nat.le_of_lt hj)
    rw [e] at q
    exact s_pos (by omega) q
  · obtain ⟨a, ha, rfl⟩ := nI_of q
    by_cases z : a < 100000
    · refine X_isChunkN lim z h.2.1 hE (by omega) (fun y1 y2 => ?_) (fun y => h2 (fun j hj e => ?_))
      · refine Classical.byContradiction fun hh => y2 (h.1.2 a (by omega) (fun j hj e => hh (h1 j hj (by rw [e]))))
      · have l1 := g.lt j (a_c α) hj (Nat.le_refl _)
        have e := (s_eq (by omega) (by omega)).mp e
        rcases y with y | y
        · omega
        · rw [e, h.1.t hj] at y
          exact (w.to hj).ge y
    · refine ⟨fun y => absurd y q, fun _ => ⟨fun _ => h2 (fun j hj e => ?_), fun y => ?_⟩⟩
      · have l1 := g.le (Nat.le_of_lt hj)
        have e := (nI_eq ha (by omega)).mp e
        omega
      · rw [h.2.1] at y
        exact absurd ((nI_leI (by omega) ha).mpr (by omega)) y
theorem X_isPointer {n : Nat} {α : AS} (lim : Int32) {σ : XS} (h : XR n α σ) (w : WF n α) (p : Int32) {post : Int32 → XS → Prop} (h1 : ∀ j, Ptr α p j → post 1 σ) (h2 : (∀ j, ¬ Ptr α p j) → post 0 σ) : wX_isPointer n lim σ p post := by
  have g := w.ge
  have hE := w.2.1
  have hn := w.2.2.1
  unfold wX_isPointer
  refine X_isChunk lim h w _ (fun j hj e => ?_) (fun e => ⟨fun _ => h2 (fun j hj => e j hj.1 (i_sub1.mpr hj.2.1).symm), fun y => absurd rfl y⟩)
  have l1 := g.lt j (a_c α) hj (Nat.le_refl _)
  have e2 := i_sub1.mp e.symm
  refine ⟨fun y => absurd y (by decide), fun _ => ?_⟩
  rw [e, s_cl (show a_F α j < 100000 by omega), h.1.t hj]
  refine ⟨s_in (by omega) (by omega), fun y => h2 (fun i hi => ?_), fun y => h1 j ⟨hj, e2, y⟩⟩
  have l2 := g.le (Nat.le_of_lt hi.1)
  have z := (s_eq (by omega) (by omega)).mp (hi.2.1.symm.trans e2)
  have z2 := g.inj (Nat.le_of_lt hi.1) (Nat.le_of_lt hj) (by omega)
  subst z2
  exact y hi.2.2
theorem X_usable {n : Nat} {α : AS} (lim : Int32) {σ : XS} (h : XR n α σ) (w : WF n α) (p : Int32) {post : Int32 → XS → Prop} (h1 : ∀ j, Ptr α p j → post (nI (a_S α j - 1)) σ) (h2 : (∀ j, ¬ Ptr α p j) → post 0 σ) : wX_usable n lim σ p post := by
  have g := w.ge
  have hE := w.2.1
  have hn := w.2.2.1
  unfold wX_usable
  refine X_isPointer lim h w p (fun j hj => ⟨fun y => absurd y (by decide), fun _ => ?_⟩) (fun z => ⟨fun _ => h2 z, fun y => absurd rfl y⟩)
  have l1 := g.lt j (a_c α) hj.1 (Nat.le_refl _)
  have l2 := g.2.1 j hj.1
  rw [(i_sub1.mpr hj.2.1).symm, s_cl (show a_F α j < 100000 by omega), h.1.z hj.1, s_m _ (by omega)]
  exact ⟨s_in (by omega) (by omega), h1 j hj⟩
theorem M_usable {n : Nat} {α : AS} {μ : MS} (lim : Int32) (h : MR α μ) (w : WF n α) (p : Int32) {post : Int32 → MS → Prop} (h1 : ∀ j, Ptr α p j → post (nI (a_S α j - 1)) μ) (h2 : (∀ j, ¬ Ptr α p j) → post 0 μ) : wM_usable lim μ p post := by
  have g := w.ge
  have hc := g.c
  unfold wM_usable
  refine M_holder lim h w p (fun j hj => ⟨fun _ => ?_, fun y => ?_⟩) (fun z => ⟨fun y => absurd y (by decide), fun _ => h2 z⟩)
  · have hj1 := hj.1
    have l2 := g.2.1 j hj.1
    rw [s_cl (show j < 100000 by omega), h.sz hj.1, s_m _ (by omega)]
    exact ⟨s_in (by omega) (by omega), h1 j hj⟩
  · have hj1 := hj.1
    exact absurd (s_pos' (by omega)) y
def Dat (α : AS) (p i : Int32) (j m : Nat) : Prop := Ptr α p j ∧ i = nI m ∧ m < a_S α j - 1
theorem dat_of {n : Nat} {α : AS} (w : WF n α) {p i : Int32} {j : Nat} (hj : Ptr α p j) (hi : ¬ i < 0) (hl : ¬ nI (a_S α j - 1) ≤ i) : ∃ m, Dat α p i j m := by
  have hS := w.ge.sz hj.1
  obtain ⟨m, hm, rfl⟩ := nI_of hi
  refine ⟨m, hj, rfl, ?_⟩
  rcases Nat.lt_or_ge m (a_S α j - 1) with z | z
  · exact z
  · exact absurd ((nI_leI (by omega) hm).mpr z) hl
theorem dat_no {n : Nat} {α : AS} (w : WF n α) {p i : Int32} {j m : Nat} (hd : Dat α p i j m) : ¬ i < 0 ∧ ¬ nI (a_S α j - 1) ≤ i := by
  have hS := w.ge.sz hd.1.1
  have := hd.2.2
  rw [hd.2.1]
  exact ⟨s_pos (by omega), fun z => by have := (s_le (by omega) (by omega)).mp z; omega⟩
theorem X_hasData {n : Nat} {α : AS} (lim : Int32) {σ : XS} (h : XR n α σ) (w : WF n α) (p i : Int32) {post : Int32 → XS → Prop} (h1 : ∀ j m, Dat α p i j m → post 1 σ) (h2 : (∀ j m, ¬ Dat α p i j m) → post 0 σ) : wX_hasData n lim σ p i post := by
  refine ⟨fun q => h2 (fun j m hd => (dat_no w hd).1 q), fun q => ?_⟩
  refine X_usable lim h w p (fun j hj => ⟨fun y => h2 (fun j2 m hd => ?_), fun y => ?_⟩) (fun z => ⟨fun _ => h2 (fun j m hd => z j hd.1), fun y => absurd (Int32.not_lt.mp q) y⟩)
  · have := hd.1.uniq w hj
    subst this
    exact (dat_no w hd).2 y
  · obtain ⟨m, hd⟩ := dat_of w hj q y
    exact h1 j m hd
theorem M_isData {n : Nat} {α : AS} {μ : MS} (lim : Int32) (h : MR α μ) (w : WF n α) (p i : Int32) {post : Int32 → MS → Prop} (h1 : ∀ j m, Dat α p i j m → post 1 μ) (h2 : (∀ j m, ¬ Dat α p i j m) → post 0 μ) : wM_isData lim μ p i post := by
  refine ⟨fun q => h2 (fun j m hd => (dat_no w hd).1 q), fun q => ?_⟩
  refine M_usable lim h w p (fun j hj => ⟨fun y => h2 (fun j2 m hd => ?_), fun y => ?_⟩) (fun z => ⟨fun _ => h2 (fun j m hd => z j hd.1), fun y => absurd (Int32.not_lt.mp q) y⟩)
  · have := hd.1.uniq w hj
    subst this
    exact (dat_no w hd).2 y
  · obtain ⟨m, hd⟩ := dat_of w hj q y
    exact h1 j m hd
theorem Dat.uniq {n : Nat} {α : AS} (w : WF n α) {p i : Int32} {j m j2 m2 : Nat} (h1 : Dat α p i j m) (h2 : Dat α p i j2 m2) : j = j2 ∧ m = m2 := by
  have e := h1.1.uniq w h2.1
  subst e
  have hS := w.ge.sz h1.1.1
  have a1 := h1.2.2
  have a2 := h2.2.2
  exact ⟨rfl, (s_eq (by omega) (by omega)).mp (h1.2.1.symm.trans h2.2.1)⟩
theorem dat_ix {n : Nat} {α : AS} (w : WF n α) {p i : Int32} {j m : Nat} (hd : Dat α p i j m) : p + i = nI (a_F α j + 1 + m) ∧ a_F α j + 1 + m < a_F α (a_c α) := by
  have hS := w.ge.sz hd.1.1
  have := hd.2.2
  rw [hd.1.2.1, hd.2.1, nI_add]
  exact ⟨rfl, by omega⟩
theorem sim_usable {n k : Nat} {σ : XS} {μ : MS} (a : Int32) (hr : Rel n k σ μ) : wX_usable n (nI n) σ a (fun r σ1 => wM_usable (nI n) μ a (fun r1 μ1 => r = r1 ∧ Rel n (k + 1) σ1 μ1)) := by
  obtain ⟨h16, α, w, hm, hx⟩ := hr
  have rr : Rel n (k + 1) σ μ := ⟨h16, α, w, hm, hx⟩
  refine X_usable _ hx w a (fun j hj => M_usable _ hm w a (fun j2 hj2 => ⟨by rw [hj.uniq w hj2], rr⟩) (fun z => absurd hj (z j))) (fun z => M_usable _ hm w a (fun j2 hj2 => absurd hj2 (z j2)) (fun _ => ⟨rfl, rr⟩))
theorem sim_read {n k : Nat} {σ : XS} {μ : MS} (a b : Int32) (hr : Rel n k σ μ) : wX_read n (nI n) σ a b (fun r σ1 => wM_read (nI n) μ a b (fun r1 μ1 => r = r1 ∧ Rel n (k + 1) σ1 μ1)) := by
  obtain ⟨h16, α, w, hm, hx⟩ := hr
  have rr : Rel n (k + 1) σ μ := ⟨h16, α, w, hm, hx⟩
  have hE := w.2.1
  have hn := w.2.2.1
  unfold wX_read
  refine X_hasData _ hx w a b (fun j m hd => ⟨fun y => absurd y (by decide), fun _ => ?_⟩) (fun z => ⟨fun _ => ?_, fun y => absurd rfl y⟩)
  · have ix := dat_ix w hd
    rw [ix.1, s_cl (by omega), hx.2.2.2.2.2.2 _ ix.2]
    refine ⟨s_in (by omega) (by omega), ?_⟩
    unfold wM_read
    refine M_isData _ hm w a b (fun j2 m2 hd2 => ⟨fun y => absurd y (by decide), fun _ => ?_⟩) (fun z => absurd hd (z j m))
    rw [ix.1, s_cl (by omega), hm.un]
    exact ⟨s_in (by omega) (by omega), rfl, rr⟩
  · unfold wM_read
    exact M_isData _ hm w a b (fun j2 m2 hd2 => absurd hd2 (z j2 m2)) (fun _ => ⟨fun _ => ⟨rfl, rr⟩, fun y => absurd rfl y⟩)
theorem sim_write {n k : Nat} {σ : XS} {μ : MS} (a b v : Int32) (hr : Rel n k σ μ) : wX_write n (nI n) σ a b v (fun r σ1 => wM_write (nI n) μ a b v (fun r1 μ1 => r = r1 ∧ Rel n (k + 1) σ1 μ1)) := by
  obtain ⟨h16, α, w, hm, hx⟩ := hr
  have rr : Rel n (k + 1) σ μ := ⟨h16, α, w, hm, hx⟩
  have hE := w.2.1
  have hn := w.2.2.1
  unfold wX_write
  refine X_hasData _ hx w a b (fun j m hd => ⟨fun _ => ?_, fun y => absurd y (by decide)⟩) (fun z => ⟨fun y => absurd rfl y, fun _ => ?_⟩)
  · have ix := dat_ix w hd
    rw [ix.1, s_cl (by omega)]
    refine ⟨s_in (by omega) (by omega), ?_⟩
    unfold wM_write
    refine M_isData _ hm w a b (fun j2 m2 hd2 => ⟨fun _ => ?_, fun y => absurd y (by decide)⟩) (fun z => absurd hd (z j m))
    rw [ix.1, s_cl (by omega)]
    refine ⟨s_in (by omega) (by omega), rfl, h16, a_sun α (upd (a_un α) (a_F α j + 1 + m) v), w, ?_, ?_⟩
    · refine ⟨hm.1, hm.2.1, hm.2.2.1, hm.2.2.2.1, ?_, hm.2.2.2.2.2⟩
      show upd (m_un μ) _ v = upd (a_un α) _ v
      rw [hm.un]
    · refine ⟨hx.1, hx.2.1, hx.2.2.1, hx.2.2.2.1, hx.2.2.2.2.1, hx.2.2.2.2.2.1, fun c hc => ?_⟩
      show upd (x_u σ) _ v c = upd (a_un α) _ v c
      by_cases e : c = a_F α j + 1 + m
      · subst e; rw [ud_at, ud_at]
      · rw [ud_ne e, ud_ne e]; exact hx.2.2.2.2.2.2 c hc
  · unfold wM_write
    exact M_isData _ hm w a b (fun j2 m2 hd2 => absurd hd2 (z j2 m2)) (fun _ => ⟨fun y => absurd rfl y, fun _ => ⟨rfl, rr⟩⟩)
theorem sim_size {n k : Nat} {σ : XS} {μ : MS} (a : Int32) (hr : Rel n k σ μ) : wX_size n (nI n) σ a (fun r σ1 => wM_size (nI n) μ a (fun r1 μ1 => r = r1 ∧ Rel n (k + 1) σ1 μ1)) := by
  obtain ⟨h16, α, w, hm, hx⟩ := hr
  have rr : Rel n (k + 1) σ μ := ⟨h16, α, w, hm, hx⟩
  have g := w.ge
  have hc := g.c
  have hE := w.2.1
  have hn := w.2.2.1
  unfold wX_size
  refine X_isChunk _ hx w a (fun j hj e => ⟨fun y => absurd y (by decide), fun _ => ?_⟩) (fun z => ⟨fun _ => ?_, fun y => absurd rfl y⟩)
  · have l1 := g.lt j (a_c α) hj (Nat.le_refl _)
    subst e
    rw [s_cl (by omega), hx.1.z hj]
    refine ⟨s_in (by omega) (by omega), ?_⟩
    unfold wM_size
    refine M_atk _ hm g hj ⟨fun _ => ?_, fun y => absurd (s_pos' (by omega)) y⟩
    rw [s_cl (by omega), hm.sz hj]
    exact ⟨s_in (by omega) (by omega), rfl, rr⟩
  · unfold wM_size
    exact M_at _ hm g a (fun j hj e => absurd e.symm (z j hj)) (fun _ => ⟨fun y => absurd y (by decide), fun _ => ⟨rfl, rr⟩⟩)
theorem sim_state {n k : Nat} {σ : XS} {μ : MS} (a : Int32) (hr : Rel n k σ μ) : wX_state n (nI n) σ a (fun r σ1 => wM_state (nI n) μ a (fun r1 μ1 => r = r1 ∧ Rel n (k + 1) σ1 μ1)) := by
  obtain ⟨h16, α, w, hm, hx⟩ := hr
  have rr : Rel n (k + 1) σ μ := ⟨h16, α, w, hm, hx⟩
  have g := w.ge
  have hc := g.c
  have hE := w.2.1
  have hn := w.2.2.1
  unfold wX_state
  refine X_isChunk _ hx w a (fun j hj e => ⟨fun y => absurd y (by decide), fun _ => ?_⟩) (fun z => ⟨fun _ => ?_, fun y => absurd rfl y⟩)
  · have l1 := g.lt j (a_c α) hj (Nat.le_refl _)
    subst e
    rw [s_cl (by omega), hx.1.t hj]
    refine ⟨s_in (by omega) (by omega), ?_⟩
    unfold wM_state
    refine M_atk _ hm g hj ⟨fun _ => ?_, fun y => absurd (s_pos' (by omega)) y⟩
    exact M_stateOf _ hm w hj ⟨rfl, rr⟩
  · unfold wM_state
    exact M_at _ hm g a (fun j hj e => absurd e.symm (z j hj)) (fun _ => ⟨fun y => absurd y (by decide), fun _ => ⟨rfl, rr⟩⟩)
theorem sim_end {n k : Nat} {σ : XS} {μ : MS} (hr : Rel n k σ μ) : wX_end n (nI n) σ (fun r σ1 => wM_end (nI n) μ (fun r1 μ1 => r = r1 ∧ Rel n (k + 1) σ1 μ1)) := by
  obtain ⟨h16, α, w, hm, hx⟩ := hr
  exact ⟨hx.2.1.trans hm.en.symm, h16, α, w, hm, hx⟩
