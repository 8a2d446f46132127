theorem X_rel74 {n : Nat} {α : AS} {k : Nat} {b bB : Bool} (lim : Int32) {σ : XS} (h : XG n α k b σ) (g : GE α) (hk : k < a_c α) (hE : a_F α (a_c α) ≤ n) (hn : n ≤ 512) (hTm : 0 < k → ¬ a_T α (k - 1) = -1) (hV : 0 < k → b = true → ¬ a_V α = nI (a_F α (k - 1))) (hB1 : (k = 0 ∨ a_T α (k - 1) = 0) → bB = b) (hB2 : ¬ (k = 0 ∨ a_T α (k - 1) = 0) → bB = (b || decide (a_V α = nI (a_F α (k - 1))))) {v2 : Int32} (hv2 : (k = 0 ∧ v2 = -1) ∨ (0 < k ∧ v2 = nI (a_F α (k - 1)))) {post : XS → Prop} (hp : ∀ σ', XR n (g58 α k b) σ' → post σ') : wX_release_74 n lim σ v2 (bI bB) (nI (a_F α k)) (nI (a_S α k)) post := by
  have l := g.lt k (a_c α) hk (Nat.le_refl _)
  unfold wX_release_74
  rcases hv2 with ⟨z, rfl⟩ | ⟨z, rfl⟩
  · refine X_isFreeM lim ⟨fun _ => ?_, fun y => absurd rfl y⟩
    rw [hB1 (Or.inl z)]
    refine X_rel95 lim h g hk hE hn (fun σ' hx => hp σ' ?_)
    unfold g58; rw [if_pos (Or.inl z)]; exact hx
  · have l1 := g.lt (k - 1) k (by omega) (by omega)
    have et : x_t σ (a_F α (k - 1)) = a_T α (k - 1) := by
      have := h.1.t (show k - 1 < a_c α by omega)
      rw [ud_ne (by omega)] at this
      exact this
    have ez : x_z σ (a_F α (k - 1)) = nI (a_S α (k - 1)) := by
      have := h.1.z (show k - 1 < a_c α by omega)
      rw [ud_ne (by omega)] at this
      exact this
    refine X_isFreeN lim (by omega) h.2.2.1 hE (by omega) (fun x1 x2 x3 => ⟨fun y => absurd y (by decide), fun _ => ?_⟩) (fun x => ⟨fun _ => ?_, fun y => absurd rfl y⟩)
    · rw [et] at x3
      have hc2 : ¬ (k = 0 ∨ a_T α (k - 1) = 0) := fun y => y.elim (by omega) x3
      refine X_lift lim (by omega) (by omega) ?_
      rw [ez, nI_add]
      have hx := h.front g hk z x3 (hV z)
      have eS : a_S (a_join α (k - 1)) (k - 1) = a_S α k + a_S α (k - 1) := by
        have : a_S (a_join α (k - 1)) (k - 1) = a_S α (k - 1) + a_S α (k - 1 + 1) := up_at
        rw [show k - 1 + 1 = k by omega] at this
        omega
      have eF : a_F (a_join α (k - 1)) (k - 1) = a_F α (k - 1) := a_del_lo (Nat.le_refl _)
      have eE : a_F (a_join α (k - 1)) (a_c (a_join α (k - 1))) = a_F α (a_c α) := by
        show a_del (a_F α) (k - 1) (a_c α - 1) = _
        rw [a_del_hi (by omega), show a_c α - 1 + 1 = a_c α by omega]
      have r := X_rel95 lim hx (g.join (by omega)) (show k - 1 < a_c α - 1 by omega) (by rw [eE]; exact hE) hn (fun σ' hx2 => hp σ' (by unfold g58; rw [if_neg hc2]; exact hx2))
      rw [eF, eS, ← hB2 hc2] at r
      exact r
    · have x0 : a_T α (k - 1) = 0 := by
        rcases x with y | y | y
        · omega
        · rw [et] at y; exact absurd y (hTm z)
        · rw [et] at y; exact y
      rw [hB1 (Or.inr x0)]
      refine X_rel95 lim h g hk hE hn (fun σ' hx => hp σ' ?_)
      unfold g58; rw [if_pos (Or.inr x0)]; exact hx
theorem a_sT_same (α : AS) {k : Nat} {v : Int32} (h : a_T α k = v) : a_sT α k v = α := by
  have : va_up (a_T α) k v = a_T α := funext fun j => by
    by_cases e : j = k
    · subst e; rw [up_at]; exact h.symm
    · rw [up_ne e]
  show (_, _, _, va_up (a_T α) k v, _, _, _, _) = α
  rw [this]
  rfl
theorem X_release {n : Nat} {α : AS} (lim : Int32) {σ : XS} (h : XR n α σ) (w : WF n α) {k : Nat} (hk : k < a_c α) (hT0 : a_T α k = 0) {post : XS → Prop} (hp : ∀ σ', XR n (gGive α k) σ' → post σ') : wX_release n lim σ (nI (a_F α k)) post := by
  have g := w.ge
  have hE := w.2.1
  have hn := w.2.2.1
  have hc := g.c
  have l := g.lt k (a_c α) hk (Nat.le_refl _)
  have hF := g.2.1 k hk
  have tm : ∀ j, j < a_c α → ¬ a_T α j = -1 := fun j hj => (w.to hj).ge
  have vk : ¬ nI (a_F α k) = a_V α := fun e => by
    have := w.v3 hk e.symm
    rw [hT0] at this; exact absurd this (by decide)
  -- after the first lift
  have hG : XG n (a_sT α k 5) k false (xLift σ (a_F α k)) := by
    obtain ⟨u, z, t, r, la, en, vi, tp⟩ := σ
    have tpn : ¬ nI (a_F α k) = tp := h.tpne g hk (Or.inl hT0)
    refine ⟨?_, ud_at, h.2.1, h.2.2.2.1, h.2.2.2.2.2.2, ?_, fun kc => ?_, fun kc => ⟨fun q hq hTq => ?_, fun hno => ?_⟩⟩
    · refine XC.up h.1 g hk (v := 5) rfl (fun _ _ => rfl) ?_ ?_ (fun y => absurd y (by decide)) (fun a ha => ?_) (fun a ha => ?_) (fun _ _ => rfl)
      · show upd (upd t (a_F α k) (-1)) (a_F α k) (va_up (a_T α) k 5 k) (a_F α k) = 5
        rw [ud_at, up_at]
      · exact ud_at
      · show upd (upd t (a_F α k) (-1)) (a_F α k) (va_up (a_T α) k 5 k) a = t a
        rw [ud_ne ha, ud_ne ha]
      · show upd (upd z (a_F α k) 0) (a_F α k) (nI (a_S α k)) a = z a
        rw [ud_ne ha, ud_ne ha]
    · show (if nI (a_F α k) = vi then -1 else vi) = a_V α
      rw [show vi = a_V α from h.2.2.1, if_neg vk]
    · show (if nI (a_F α k) = tp then -1 else tp) = -1
      rw [if_neg tpn]
      exact h.2.2.2.2.2.1 (Or.inr ⟨k, kc, hT0⟩)
    · have hTq : ¬ va_up (a_T α) k 5 q = 0 := hTq
      have kc : k + 1 ≠ a_c α := kc
      have hq : q + 1 = a_c α := hq
      rw [up_ne (by omega)] at hTq
      show (if nI (a_F α k) = tp then -1 else tp) = nI (a_F α q)
      rw [if_neg tpn]
      exact h.2.2.2.2.1 q hq hTq
    · show (if nI (a_F α k) = tp then -1 else tp) = -1
      rw [if_neg tpn]
      refine h.2.2.2.2.2.1 ?_
      have kc : k + 1 ≠ a_c α := kc
      rcases hno with y | ⟨q, hq, y⟩
      · exact Or.inl y
      · have y : va_up (a_T α) k 5 q = 0 := y
        have hq : q + 1 = a_c α := hq
        rw [up_ne (by omega)] at y
        exact Or.inr ⟨q, hq, y⟩
  -- the victim touches
  obtain ⟨bB, hbB⟩ : ∃ bB : Bool, bB = (decide (0 < k ∧ a_V α = nI (a_F α (k - 1))) || decide (k + 1 < a_c α ∧ a_V α = nI (a_F α (k + 1)))) := ⟨_, rfl⟩
  have p44 : ∀ v2 : Int32, (k = 0 ∧ v2 = -1) ∨ (0 < k ∧ v2 = nI (a_F α (k - 1))) → wX_release_44 n lim σ (nI (a_F α k)) v2 (nI (a_F α (k + 1))) (bI bB) post := by
    intro v2 hv2
    unfold wX_release_44
    refine X_lift lim (by omega) (by omega) ?_
    rw [h.1.z hk]
    have lk1 := g.le (show k + 1 ≤ a_c α by omega)
    -- what the next one's row says
    have en' : x_en (xLift σ (a_F α k)) = nI (a_F α (a_c α)) := h.2.1
    have etn : k + 1 < a_c α → x_t (xLift σ (a_F α k)) (a_F α (k + 1)) = a_T α (k + 1) := fun y => by
      show upd (x_t σ) (a_F α k) (-1) (a_F α (k + 1)) = _
      rw [ud_ne (by omega)]; exact h.1.t y
    have ezn : k + 1 < a_c α → x_z (xLift σ (a_F α k)) (a_F α (k + 1)) = nI (a_S α (k + 1)) := fun y => by
      show upd (x_z σ) (a_F α k) 0 (a_F α (k + 1)) = _
      rw [ud_ne (by omega)]; exact h.1.z y
    have eTm : 0 < k → a_T (a_sT α k 5) (k - 1) = a_T α (k - 1) := fun y => up_ne (by omega)
    refine X_isFreeN lim (by omega) en' hE (by omega) (fun x1 x2 x3 => ⟨fun y => absurd y (by decide), fun _ => ?_⟩) (fun x => ⟨fun _ => ?_, fun y => absurd rfl y⟩)
    · have hk1 : k + 1 < a_c α := by
        rcases Nat.lt_or_ge (k + 1) (a_c α) with y | y
        · exact y
        · have : k + 1 = a_c α := by omega
          rw [this] at x1; omega
      rw [etn hk1] at x3
      refine X_lift lim (by omega) (by omega) ?_
      rw [ezn hk1, nI_add]
      have hx := XG.back hG g (show k + 1 < a_c (a_sT α k 5) from hk1) (by rw [show a_T (a_sT α k 5) (k + 1) = a_T α (k + 1) from up_ne (by omega)]; exact x3)
      have g1 : GE (a_join (a_sT α k 5) k) := GE.join (α := a_sT α k 5) g hk1
      have eE : a_F (a_join (a_sT α k 5) k) (a_c (a_join (a_sT α k 5) k)) = a_F α (a_c α) := by
        show a_del (a_F α) k (a_c α - 1) = _
        rw [a_del_hi (by omega), show a_c α - 1 + 1 = a_c α by omega]
      have eF : a_F (a_join (a_sT α k 5) k) k = a_F α k := a_del_lo (Nat.le_refl _)
      have eS : a_S (a_join (a_sT α k 5) k) k = a_S α k + a_S α (k + 1) := up_at
      have eFm : 0 < k → a_F (a_join (a_sT α k 5) k) (k - 1) = a_F α (k - 1) := fun y => a_del_lo (by omega)
      have eTm2 : 0 < k → a_T (a_join (a_sT α k 5) k) (k - 1) = a_T α (k - 1) := fun y => by
        show a_del (va_up (a_T α) k 5) k (k - 1) = _
        rw [a_del_lo (by omega), up_ne (by omega)]
      have both : 0 < k → a_V α = nI (a_F α (k + 1)) → ¬ a_V α = nI (a_F α (k - 1)) := fun y y1 y2 => by
        have l2 := g.le (show k - 1 ≤ a_c α by omega)
        have := g.inj (show k + 1 ≤ a_c α by omega) (show k - 1 ≤ a_c α by omega) ((s_eq (by omega) (by omega)).mp (y1.symm.trans y2))
        omega
      have e2 : decide (k + 1 < a_c α ∧ a_V α = nI (a_F α (k + 1))) = decide (a_V α = nI (a_F α (k + 1))) := by
        by_cases y : a_V α = nI (a_F α (k + 1))
        · rw [decide_eq_true y, decide_eq_true ⟨hk1, y⟩]
        · rw [decide_eq_false y, decide_eq_false (fun q => y q.2)]
      have r := X_rel74 (b := decide (a_V α = nI (a_F α (k + 1)))) (bB := bB) (v2 := v2) (post := post) lim hx g1 (show k < a_c α - 1 by omega) (by rw [eE]; exact hE) hn (fun y => by rw [eTm2 y]; exact tm _ (by omega)) (fun y y1 => by rw [eFm y]; exact both y (of_decide_eq_true y1)) (fun y => ?_) (fun y => ?_) (hv2.elim Or.inl (fun y => Or.inr ⟨y.1, by rw [eFm y.1]; exact y.2⟩)) (fun σ' hx2 => hp σ' (by unfold gGive; rw [if_pos ⟨hk1, x3⟩]; exact hx2))
      · rw [eF, eS] at r
        exact r
      · rw [hbB, e2]
        have : decide (0 < k ∧ a_V α = nI (a_F α (k - 1))) = false := decide_eq_false (fun q => by
          rcases y with y | y
          · omega
          · rw [eTm2 q.1] at y
            have := w.v3 (show k - 1 < a_c α by omega) q.2
            rw [y] at this; exact absurd this (by decide))
        rw [this, Bool.false_or]
      · rw [hbB, e2]
        have hk0 : 0 < k := Nat.pos_of_ne_zero fun z => y (Or.inl z)
        rw [eFm hk0, show a_V (a_join (a_sT α k 5) k) = a_V α from rfl, Bool.or_comm]
        have : decide (0 < k ∧ a_V α = nI (a_F α (k - 1))) = decide (a_V α = nI (a_F α (k - 1))) := by
          by_cases q : a_V α = nI (a_F α (k - 1))
          · rw [decide_eq_true q, decide_eq_true ⟨hk0, q⟩]
          · rw [decide_eq_false q, decide_eq_false (fun z => q z.2)]
        rw [this]
    · have hng : ¬ (k + 1 < a_c α ∧ ¬ a_T α (k + 1) = 0) := fun q => by
        rcases x with y | y | y
        · have := g.lt (k + 1) (a_c α) q.1 (Nat.le_refl _); omega
        · rw [etn q.1] at y; exact tm _ q.1 y
        · rw [etn q.1] at y; exact q.2 y
      have e2 : decide (k + 1 < a_c α ∧ a_V α = nI (a_F α (k + 1))) = false := decide_eq_false (fun q => hng ⟨q.1, by rw [w.v3 q.1 q.2]; decide⟩)
      have r := X_rel74 (b := false) (bB := bB) (v2 := v2) (post := post) lim hG g hk hE hn (fun y => by rw [eTm y]; exact tm _ (by omega)) (fun _ y1 => absurd y1 (by decide)) (fun y => ?_) (fun y => ?_) hv2 (fun σ' hx2 => hp σ' (by unfold gGive; rw [if_neg hng]; exact hx2))
      · exact r
      · rw [hbB, e2, Bool.or_false]
        exact decide_eq_false (fun q => by
          rcases y with y | y
          · omega
          · rw [eTm q.1] at y
            have := w.v3 (show k - 1 < a_c α by omega) q.2
            rw [y] at this; exact absurd this (by decide))
      · rw [hbB, e2, Bool.or_false, Bool.false_or]
        have hk0 : 0 < k := Nat.pos_of_ne_zero fun z => y (Or.inl z)
        rw [show a_V (a_sT α k 5) = a_V α from rfl, show a_F (a_sT α k 5) = a_F α from rfl]
        by_cases q : a_V α = nI (a_F α (k - 1))
        · rw [decide_eq_true q, decide_eq_true ⟨hk0, q⟩]
        · rw [decide_eq_false q, decide_eq_false (fun z => q z.2)]
  have lk1 := g.le (show k + 1 ≤ a_c α by omega)
  have flag : ∀ v2 : Int32, (k = 0 ∧ v2 = -1) ∨ (0 < k ∧ v2 = nI (a_F α (k - 1))) → (vp_in (nI (a_F α k)) n ∧ ((x_vi σ = -1 → wX_release_44 n lim σ (nI (a_F α k)) v2 (nI (a_F α k) + x_z σ (nI (a_F α k)).toNatClampNeg) 0 post) ∧ (¬ x_vi σ = -1 → ((x_vi σ = v2 → wX_release_44 n lim σ (nI (a_F α k)) v2 (nI (a_F α k) + x_z σ (nI (a_F α k)).toNatClampNeg) 1 post) ∧ (¬ x_vi σ = v2 → ((¬ x_vi σ = nI (a_F α k) + x_z σ (nI (a_F α k)).toNatClampNeg → wX_release_44 n lim σ (nI (a_F α k)) v2 (nI (a_F α k) + x_z σ (nI (a_F α k)).toNatClampNeg) 0 post) ∧ (x_vi σ = nI (a_F α k) + x_z σ (nI (a_F α k)).toNatClampNeg → wX_release_44 n lim σ (nI (a_F α k)) v2 (nI (a_F α k) + x_z σ (nI (a_F α k)).toNatClampNeg) 1 post))))))) := by
    intro v2 hv2
    have r := p44 v2 hv2
    rw [s_cl (by omega), h.1.z hk, nI_add, ← hF.1, h.2.2.1]
    have ktop : a_V α = nI (a_F α (k + 1)) → k + 1 < a_c α := fun y => by
      rcases Nat.lt_or_ge (k + 1) (a_c α) with q | q
      · exact q
      · exfalso
        have : k + 1 = a_c α := by omega
        rcases w.2.2.2.2.2 with y2 | ⟨j, hj, y2, -⟩
        · exact s_m1 (by omega) (y.symm.trans y2)
        · have l2 := g.lt j (a_c α) hj (Nat.le_refl _)
          have := (s_eq (by omega) (by omega)).mp (y.symm.trans y2)
          rw [show k + 1 = a_c α by omega] at this
          omega
    refine ⟨s_in (by omega) (by omega), fun y => ?_, fun y => ⟨fun y2 => ?_, fun y2 => ⟨fun y3 => ?_, fun y3 => ?_⟩⟩⟩
    · have : bB = false := by
        rw [hbB, decide_eq_false (fun q => by have l2 := g.le (show k - 1 ≤ a_c α by omega); exact s_m1 (by omega) (q.2.symm.trans y)), decide_eq_false (fun q => s_m1 (by omega) (q.2.symm.trans y))]
        rfl
      rw [this] at r; exact r
    · have : bB = true := by
        rcases hv2 with ⟨z, rfl⟩ | ⟨z, rfl⟩
        · exact absurd y2 y
        · rw [hbB, decide_eq_true ⟨z, y2⟩]; rfl
      rw [this] at r; exact r
    · have : bB = false := by
        rw [hbB, decide_eq_false (fun q => by
          rcases hv2 with ⟨z, rfl⟩ | ⟨z, rfl⟩
          · omega
          · exact y2 q.2), decide_eq_false (fun q => y3 q.2)]
        rfl
      rw [this] at r; exact r
    · have : bB = true := by
        rw [hbB, decide_eq_true (show k + 1 < a_c α ∧ a_V α = nI (a_F α (k + 1)) from ⟨ktop y3, y3⟩), Bool.or_true]
      rw [this] at r; exact r
  unfold wX_release
  refine X_chunkBefore lim h.1 g hE (by omega) hk (fun z => tm _ (by omega)) (fun z => flag (-1) (Or.inl ⟨z, rfl⟩)) (fun z => flag _ (Or.inr ⟨z, rfl⟩))
