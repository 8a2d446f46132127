theorem WF.st {n : Nat} {α : AS} (w : WF n α) {k : Nat} (hk : k < a_c α) (hT : a_T α k = 1 ∨ a_T α k = 2) : k + 1 ≠ a_c α ∧ ¬ nI (a_F α k) = a_V α ∧ ¬ a_T α k = 0 ∧ ¬ a_T α k = 3 := by
  have n0 : ¬ a_T α k = 0 := by rcases hT with z | z <;> rw [z] <;> decide
  have n3 : ¬ a_T α k = 3 := by rcases hT with z | z <;> rw [z] <;> decide
  have n4 : ¬ a_T α k = 4 := by rcases hT with z | z <;> rw [z] <;> decide
  refine ⟨fun e => ?_, fun e => n3 (w.v3 hk e.symm), n0, n3⟩
  exact n4 (w.top4 e n0)
theorem WF.t4 {n : Nat} {α : AS} (w : WF n α) {k : Nat} (hk : k < a_c α) (hT : a_T α k = 4) : k + 1 = a_c α ∧ ¬ nI (a_F α k) = a_V α := by
  have n3 : ¬ a_T α k = 3 := by rw [hT]; decide
  refine ⟨?_, fun e => n3 (w.v3 hk e.symm)⟩
  rcases w.to hk with z | z | z | z | z
  · rw [hT] at z; exact absurd z (by decide)
  · rw [hT] at z; exact absurd z.1 (by decide)
  · rw [hT] at z; exact absurd z.1 (by decide)
  · rw [hT] at z; exact absurd z.1 (by decide)
  · exact z.2
theorem code_or (m : Nat) : (a_code m = 1 ∧ m < 16) ∨ (a_code m = 2 ∧ 16 ≤ m) := by
  unfold a_code
  by_cases z : m < 16
  · rw [if_pos z]; exact Or.inl ⟨rfl, z⟩
  · rw [if_neg z]; exact Or.inr ⟨rfl, by omega⟩
theorem WF.kV {n : Nat} {α : AS} (w : WF n α) {v s : Nat} (hv : v < a_c α) (h3 : a_T α v = 3) (h2 : 2 ≤ s) : WF n (cutV α v s) := by
  unfold cutV
  by_cases q : a_S α v < s + 2
  · rw [if_pos q]; exact w.useV hv h3
  · rw [if_neg q]
    have l := (w.v1 hv h3).2
    exact w.part hv h2 (by omega) (v := 3) (Or.inr fun z => w.nx (by rw [h3]; decide) z) rfl (Or.inr <| Or.inr ⟨l, Or.inr (Or.inr ⟨rfl, rfl⟩)⟩) (fun j hj hjk t => absurd (w.vu hj hv t h3) hjk) (Or.inr (Or.inl ⟨rfl, rfl⟩))
theorem WF.kT {n : Nat} {α : AS} (w : WF n α) {t s : Nat} (ht : t < a_c α) (h4 : a_T α t = 4) (h2 : 2 ≤ s) : WF n (cutT α t s) := by
  unfold cutT
  have l := w.t4 ht h4
  by_cases q : a_S α t < s + 2
  · rw [if_pos q]; exact w.use ht (by rw [h4]; decide)
  · rw [if_neg q]
    refine w.part ht h2 (by omega) (v := 4) (Or.inr fun z => by omega) rfl (Or.inr <| Or.inl ⟨rfl, l.1⟩) (fun j hj _ t => (w.v1 hj t).1) ?_
    rcases w.2.2.2.2.2 with z | ⟨j, hj, z1, z2⟩
    · exact Or.inl z
    · exact Or.inr (Or.inr ⟨j, hj, fun e => by rw [e, h4] at z2; exact absurd z2 (by decide), z1, z2⟩)
theorem WF.kS {n : Nat} {α : AS} (w : WF n α) {b s : Nat} (hb : b < a_c α) (hT : a_T α b = 1 ∨ a_T α b = 2) (h2 : 2 ≤ s) : WF n (cutS α b s) := by
  unfold cutS
  have l := w.st hb hT
  by_cases q : a_S α b < s + 2
  · rw [if_pos q]; exact w.use hb l.2.2.2
  · rw [if_neg q, a_partS_eq]
    refine w.part hb h2 (by omega) (v := a_code (a_S α b - s)) (Or.inr fun z => w.nx l.2.2.1 z) rfl (Or.inr <| Or.inr ⟨l.1, (code_or _).elim Or.inl (fun z => Or.inr (Or.inl z))⟩) (fun j hj _ t => (w.v1 hj t).1) ?_
    rcases w.2.2.2.2.2 with z | ⟨j, hj, z1, z2⟩
    · exact Or.inl z
    · exact Or.inr (Or.inr ⟨j, hj, fun e => l.2.2.2 (by rw [← e]; exact z2), z1, z2⟩)
theorem WF.kN0 {n : Nat} {α : AS} (w : WF n α) {b s : Nat} (hb : b < a_c α) (hT : a_T α b = 1 ∨ a_T α b = 2) (h2 : 2 ≤ s) (hs : s + 2 ≤ a_S α b) (hV : a_V α = -1) : WF n (cutN0 α b s) := by
  have l := w.st hb hT
  exact w.part hb h2 hs (v := 3) (Or.inr fun z => w.nx l.2.2.1 z) rfl (Or.inr <| Or.inr ⟨l.1, Or.inr (Or.inr ⟨rfl, rfl⟩)⟩) (fun j hj _ t => absurd t (w.vn hV hj)) (Or.inr (Or.inl ⟨rfl, rfl⟩))
theorem up_ins2 {τ : Type} (f : Nat → τ) {k w : Nat} (x y : τ) (h : w ≠ k) : va_up (a_ins f k x) (if w < k then w else w + 1) y = a_ins (va_up f w y) k x := by
  funext j
  by_cases hw : w < k
  · rw [if_pos hw]
    by_cases e : j = w
    · subst e; rw [up_at, a_ins_lo (by omega), up_at]
    · rw [up_ne e]
      rcases (show j ≤ k ∨ j = k + 1 ∨ k + 1 < j by omega) with q | q | q
      · rw [a_ins_lo q, a_ins_lo q, up_ne e]
      · subst q; rw [a_ins_at, a_ins_at]
      · rw [a_ins_hi q, a_ins_hi q, up_ne (by omega)]
  · rw [if_neg hw]
    by_cases e : j = w + 1
    · subst e; rw [up_at, a_ins_hi (by omega)]; exact up_at.symm
    · rw [up_ne e]
      rcases (show j ≤ k ∨ j = k + 1 ∨ k + 1 < j by omega) with q | q | q
      · rw [a_ins_lo q, a_ins_lo q, up_ne (by omega)]
      · subst q; rw [a_ins_at, a_ins_at]
      · rw [a_ins_hi q, a_ins_hi q, up_ne (by omega)]
theorem up_comm {τ : Type} (f : Nat → τ) {a b : Nat} (x y : τ) (h : a ≠ b) : va_up (va_up f a x) b y = va_up (va_up f b y) a x := by
  funext j
  by_cases e : j = b
  · subst e; rw [up_at, up_ne (fun z => h z.symm), up_at]
  · rw [up_ne e]
    by_cases e2 : j = a
    · subst e2; rw [up_at, up_at]
    · rw [up_ne e2, up_ne e2, up_ne e]
theorem cutN1_eq (α : AS) {b s w : Nat} (h : w ≠ b) : cutN1 α b s w = (a_c α + 1, a_ins (a_F α) b (a_F α b + s), va_up (a_ins (a_S α) b (a_S α b - s)) b s, a_ins (va_up (va_up (a_T α) w (a_code (a_S α w))) b 0) b 3, a_ins (va_up (a_C α) w (a_K α + 1)) b 0, nI (a_F α b + s), a_K α + 1, a_un α) := by
  show (_, _, _, va_up (a_ins (va_up (a_T α) b 0) b 3) (if w < b then w else w + 1) (a_code (a_S α w)), va_up (a_ins (a_C α) b 0) (if w < b then w else w + 1) (a_K α + 1), _, _, _) = _
  rw [up_ins2 _ _ _ h, up_ins2 _ _ _ h, up_comm _ _ _ (fun z => h z.symm)]
  rfl
theorem WF.kN1 {n : Nat} {α : AS} (w : WF n α) {b s v : Nat} (hb : b < a_c α) (hT : a_T α b = 1 ∨ a_T α b = 2) (h2 : 2 ≤ s) (hs : s + 2 ≤ a_S α b) (hv : v < a_c α) (h3 : a_T α v = 3) : WF n (cutN1 α b s v) := by
  have l := w.st hb hT
  have hne : v ≠ b := fun e => l.2.2.2 (by rw [← e]; exact h3)
  rw [cutN1_eq α hne]
  have w1 := w.devict hv h3
  have eb : a_T (a_sV (a_stor2 α v (a_code (a_S α v))) (-1)) b = a_T α b := up_ne (fun z => hne z.symm)
  refine WF.part (α := a_sV (a_stor2 α v (a_code (a_S α v))) (-1)) w1 hb h2 hs (v := 3) (Or.inr fun z => w1.nx (by rw [eb]; exact l.2.2.1) z) rfl (Or.inr <| Or.inr ⟨l.1, Or.inr (Or.inr ⟨rfl, rfl⟩)⟩) (fun j hj _ t => absurd t (w1.vn rfl hj)) (Or.inr (Or.inl ⟨rfl, rfl⟩))
theorem XR.kN1 {n : Nat} {α : AS} {σ : XS} (h : XR n α σ) (w : WF n α) {b s v : Nat} (hb : b < a_c α) (hT : a_T α b = 1 ∨ a_T α b = 2) (h2 : 2 ≤ s) (hs : s + 2 ≤ a_S α b) (hv : v < a_c α) (h3 : a_T α v = 3) : XR n (cutN1 α b s v) (xLay (xLay (xLay0 (xLift σ (a_F α b)) (a_F α b) s) (a_F α b + s) (a_S α b - s) 3) (a_F α v) (a_S α v) 2) := by
  have g := w.ge
  have l := w.st hb hT
  have hne : v ≠ b := fun e => l.2.2.2 (by rw [← e]; exact h3)
  have h1 := XR.cut3 h g hb h2 hs l.1
  have g1 : GE (a_sV (a_part (a_sT α b 0) b s 3) (nI (a_F α b + s))) := GE.part (α := a_sT α b 0) (v := 3) g hb h2 hs
  generalize xLay (xLay0 (xLift σ (a_F α b)) (a_F α b) s) (a_F α b + s) (a_S α b - s) 3 = σ1 at h1 ⊢
  have hk' : (if v < b then v else v + 1) < a_c α + 1 := by split <;> omega
  have eF : a_F (a_sV (a_part (a_sT α b 0) b s 3) (nI (a_F α b + s))) (if v < b then v else v + 1) = a_F α v := by
    show a_ins (a_F α) b (a_F α b + s) _ = _
    split
    · exact a_ins_lo (by omega)
    · rw [a_ins_hi (by omega)]; rfl
  have eS : a_S (a_sV (a_part (a_sT α b 0) b s 3) (nI (a_F α b + s))) (if v < b then v else v + 1) = a_S α v := by
    show va_up (a_ins (a_S α) b (a_S α b - s)) b s _ = _
    split
    · rw [up_ne (by omega), a_ins_lo (by omega)]
    · rw [up_ne (by omega), a_ins_hi (by omega)]; rfl
  have eT3 : ¬ (if v < b then v else v + 1) + 1 = a_c α + 1 := by
    have := (w.v1 hv h3).2
    have := l.1
    split <;> omega
  obtain ⟨u, z, t, r, la, en, vi, tp⟩ := σ1
  refine ⟨?_, h1.2.1, h1.2.2.1, ?_, fun q hq hT => ?_, fun hno => ?_, h1.2.2.2.2.2.2⟩
  · refine XC.up (k := if v < b then v else v + 1) h1.1 g1 hk' (v := a_code (a_S α v)) rfl (fun j hj => up_ne hj) ?_ ?_ (fun _ => ?_) (fun a ha => ?_) (fun a ha => ?_) (fun a ha => ?_)
    · rw [eF]; exact ud_at
    · rw [eF, eS]; exact ud_at
    · rw [eF]
      show upd r (a_F α v) (la + 1) (a_F α v) = va_up (a_ins (a_C α) b 0) (if v < b then v else v + 1) (a_K α + 1) (if v < b then v else v + 1)
      rw [ud_at, up_at, show la = a_K α from h1.2.2.2.1]
    · rw [eF] at ha; exact ud_ne ha
    · rw [eF] at ha; exact ud_ne ha
    · rw [eF] at ha; exact ud_ne ha
  · show la + 1 = a_K α + 1
    rw [show la = a_K α from h1.2.2.2.1]
  · have hq : q + 1 = a_c α + 1 := hq
    have hT : ¬ va_up (a_ins (va_up (a_T α) b 0) b 3) (if v < b then v else v + 1) (a_code (a_S α v)) q = 0 := hT
    rw [up_ne (fun e => eT3 (by rw [← e]; exact hq))] at hT
    exact h1.2.2.2.2.1 q hq hT
  · refine h1.2.2.2.2.2.1 ?_
    rcases hno with y | ⟨q, hq, y⟩
    · exact Or.inl y
    · have hq : q + 1 = a_c α + 1 := hq
      have y : va_up (a_ins (va_up (a_T α) b 0) b 3) (if v < b then v else v + 1) (a_code (a_S α v)) q = 0 := y
      rw [up_ne (fun e => eT3 (by rw [← e]; exact hq))] at y
      exact Or.inr ⟨q, hq, y⟩
