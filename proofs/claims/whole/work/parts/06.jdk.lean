def x_fl (f : Nat → Int32) (lo hi : Nat) (v : Int32) : Nat → Int32 := fun j => if lo ≤ j ∧ j < hi then v else f j
theorem x_fl_0 (f : Nat → Int32) (lo : Nat) (v : Int32) : x_fl f lo lo v = f := funext fun j => if_neg (by omega)
theorem x_fl_s (f : Nat → Int32) {lo i : Nat} (v : Int32) (h : lo ≤ i) : upd (x_fl f lo i v) i v = x_fl f lo (i + 1) v := by
  funext j
  simp only [upd, x_fl]
  by_cases h1 : j = i
  · rw [if_pos h1, if_pos (by omega)]
  · rw [if_neg h1]
    by_cases h2 : lo ≤ j ∧ j < i
    · rw [if_pos h2, if_pos (by omega)]
    · rw [if_neg h2, if_neg (by omega)]
def j_e (a : Nat) (cA : ClassId) (n : Nat) (f : Nat → Int32) : Nat × va_E := (a, .inl (cA, n, .inl f))
def j_B (D : va_G) (cl : List vw_C) (tys : List (ClassId × FieldType)) (w : va_W) (A : Nat → Prop) (t : State) : Prop := va_P D cl w t.heap ∧ va_K D cl tys t ∧ va_D A w
def j_Pc (D : va_G) (cl : List vw_C) (tys : List (ClassId × FieldType)) (w : va_W) (sz : Nat) (As : List Value) : Array Value → State → Prop := va_Pc As (fun U => U.heap.size = sz ∧ va_P D cl w U.heap ∧ va_K D cl tys U ∧ va_D (fun _ => True) w)
set_option maxHeartbeats 4000000 in
set_option maxRecDepth 100000 in
theorem bJ_fill {p : Program} {l : Launch} {e : Env} {R : Room} {s : State} {m : MethodId} {args : Array Value} {below : List Frame} {meth : Method} {c : Code} {D : va_G} {cl : List vw_C} {tys : List (ClassId × FieldType)} {A : Nat → Prop} (hx : p.tables.exec = Jvm.exec) (hb : c.code = cJ_fill) (hr : meth.sig.returnType = none) (hlocks : meth.locks = false) (hK : va_K D cl tys s) {ws : va_W} {q0 t0 a : Nat} {cA : ClassId} {n : Nat} {f : Nat → Int32} {v : Int32} (ha : ws[q0]? = some (a, .inl (cA, n, .inl f))) (ht : tys[t0]? = some (cA, .int)) (hn : n < 2 ^ 31) :
    ∀ (k i : Nat) (H : Heap) (locs : List Loc) (ls : Array Slot), i ≤ n → n + 1 ≤ i + k → va_P D cl (ws.set q0 (j_e a cA n (x_fl f 0 i v))) H → va_D A (ws.set q0 (j_e a cA n (x_fl f 0 i v))) → va_S A s.heap H locs → lv_has ls 4 [(0, .ref a), (1, .int v), (2, .int (nI i)), (3, .int (nI n))] → W p l e R s m args below meth c H locs 0 0 (MQ below (va_Qv (fun _ : Unit => True) (fun _ t => j_B D cl tys (ws.set q0 (j_e a cA n (x_fl f 0 n v))) A t) A) args s 0 0 A) (F0 m 5 ls []) := by
  have hq : q0 < ws.length := (List.getElem?_eq_some_iff.mp ha).1
  intro k
  induction k with
  | zero => intro i H locs ls h1 h2; omega
  | succ k ih =>
    intro i H locs ls hi hk hP hD hS hl
    refine lv_iload_n hx hb dJ_fill_5 rfl (lv_at hl 2 rfl) ?_
    refine lv_iload_n hx hb dJ_fill_6 rfl (lv_at hl 3 rfl) ?_
    refine lv_icmp_ge (tgt := 20) hx hb dJ_fill_7 (by decide) (fun hc => ?_) (fun hc => ?_)
    · have e : i = n := by have := (nI_leI hn (Nat.lt_of_le_of_lt hi hn)).mp hc; omega
      subst e
      exact W.vret hx hb hr (fun t ht hW => ⟨⟨(), rfl, trivial, by rw [ht]; exact hP, va_K.moved hW.alike hK, hD⟩, hS.F ht⟩) hS.2.2 dJ_fill_20 hlocks
    · have hlt : i < n := by
        rcases Nat.lt_or_ge i n with h | h
        · exact h
        · exact absurd (nI_le h (by omega)) hc
      refine lv_aload_n hx hb dJ_fill_10 rfl (lv_at hl 0 rfl) ?_
      refine lv_iload_n hx hb dJ_fill_11 rfl (lv_at hl 2 rfl) ?_
      refine lv_iload_n hx hb dJ_fill_12 rfl (lv_at hl 1 rfl) ?_
      refine va_iast (cA := cA) (n := n) (f := x_fl f 0 i v) hx hb hK hP hD hS q0 t0 (List.getElem?_set_self hq) ht (vp_in_nI hlt hn) dJ_fill_13 (fun H locs hP hD hS => ?_)
      rw [List.set_set, nI_clamp (by omega), x_fl_s f v (Nat.zero_le i)] at hP hD
      refine lv_iinc (v := nI (i + 1)) (lv' := [(2, .int (nI (i + 1))), (0, .ref a), (1, .int v), (3, .int (nI n))]) hx hb dJ_fill_14 hl (k := 2) rfl (nI_1 i) (by decide) rfl (fun ls hl => ?_)
      refine lv_goto (tgt := 5) hx hb dJ_fill_17 (by decide) ?_
      exact ih (i + 1) H locs ls hlt (by omega) hP hD hS (lv_sub hl [1, 2, 0, 3] rfl)
set_option maxHeartbeats 4000000 in
set_option maxRecDepth 100000 in
theorem cJm_fill (l : Launch) (D : va_G) (cl : List vw_C) (tys : List (ClassId × FieldType)) (ws : va_W) (q0 t0 : Nat) {a : Nat} {cA : ClassId} {n : Nat} {f : Nat → Int32} {v : Int32} (ha : ws[q0]? = some (a, .inl (cA, n, .inl f))) (ht : tys[t0]? = some (cA, .int)) (hn : n < 2 ^ 31) (sz : Nat) : Met l yJ_fill (.code yJ_fill cJ_fill 4 none :: lw_g) { frames := 0, cells := 0, slots := 0, locals := 0 } (j_Pc D cl tys ws sz [.ref a, .int v]) (va_Qv (fun _ : Unit => True) (fun _ t => j_B D cl tys (ws.set q0 (j_e a cA n (x_fl f 0 n v))) (va_A ws sz) t) (va_A ws sz)) 0 0 (va_A ws sz) := by
  have hq : q0 < ws.length := (List.getElem?_eq_some_iff.mp ha).1
  refine Met.ofW (cc := cJ_fill) (maxL := 4) (ret := none) (by decide) rfl ?_
  intro p e s m args below meth c s₁ B hml hv
  obtain ⟨rfl, hsz, hP, hK, hD0⟩ := hv
  have hx := B.exec
  have hb := B.bytes
  have hr := B.returns
  have hlocks := B.notSynchronized
  subst hsz
  have hD := hD0.self (sz := s.heap.size)
  have hS : va_S (va_A ws s.heap.size) s.heap s.heap [] := va_S.rf
  have hw : ws.set q0 (j_e a cA n (x_fl f 0 0 v)) = ws := by
    rw [x_fl_0]
    exact List.ext_getElem? fun i => by
      by_cases h : q0 = i
      · subst h; rw [List.getElem?_set_self hq, ha]; rfl
      · rw [List.getElem?_set_ne h]
  have hl := lv_entry ([.ref a, .int v]) (n := 4) (Nat.le_of_ble_eq_true rfl)
  rw [lg_entry_eq]
  generalize (lg_sl ([.ref a, .int v]) ++ List.replicate (4 - (lg_sl ([.ref a, .int v])).length) Slot.unset).toArray = ls at hl ⊢
  have hl : lv_has ls 4 [(0, .ref a), (1, .int v)] := hl
  refine lv_iconst (v := 0) hx hb dJ_fill_0 (by decide) ?_
  refine lv_istore_n (lv' := [(2, .int 0), (0, .ref a), (1, .int v)]) hx hb dJ_fill_1 rfl hl (by decide) rfl (fun ls hl => ?_)
  refine lv_aload_n hx hb dJ_fill_2 rfl (lv_at hl 1 rfl) ?_
  refine va_alen (v := nI n) hx hb hK hP q0 t0 ha ht rfl dJ_fill_3 ?_
  refine lv_istore_n (lv' := [(3, .int (nI n)), (2, .int 0), (0, .ref a), (1, .int v)]) hx hb dJ_fill_4 rfl hl (by decide) rfl (fun ls hl => ?_)
  exact bJ_fill hx hb hr hlocks hK ha ht hn (n + 1) 0 _ _ ls (Nat.zero_le n) (by omega) (by rw [hw]; exact hP) (by rw [hw]; exact hD) hS (lv_sub hl [2, 3, 1, 0] rfl)
set_option maxHeartbeats 4000000 in
set_option maxRecDepth 100000 in
theorem cJm_rangeCheck (l : Launch) {n lo hi : Int32} (hin : ¬ hi < lo ∧ ¬ lo < 0 ∧ ¬ n < hi) : Met l yJ_rangeCheck (.code yJ_rangeCheck cJ_rangeCheck 3 none :: lw_g) { frames := 0, cells := 0, slots := 0, locals := 0 } (va_Pc [.int n, .int lo, .int hi] (fun _ => True)) (va_Sv (fun _ => True)) 0 0 (fun _ => False) := by
  refine Met.ofW (cc := cJ_rangeCheck) (maxL := 3) (ret := none) (by decide) rfl ?_
  intro p e s m args below meth c s₁ B hml hv
  obtain ⟨rfl, -⟩ := hv
  have hx := B.exec
  have hb := B.bytes
  have hr := B.returns
  have hlocks := B.notSynchronized
  have hl := lv_entry ([.int n, .int lo, .int hi]) (n := 3) (Nat.le_of_ble_eq_true rfl)
  rw [lg_entry_eq]
  generalize (lg_sl ([.int n, .int lo, .int hi]) ++ List.replicate (3 - (lg_sl ([.int n, .int lo, .int hi])).length) Slot.unset).toArray = ls at hl ⊢
  have hl : lv_has ls 3 [(0, .int n), (1, .int lo), (2, .int hi)] := hl
  refine lv_iload_n hx hb dJ_rangeCheck_0 rfl (lv_at hl 1 rfl) ?_
  refine lv_iload_n hx hb dJ_rangeCheck_1 rfl (lv_at hl 2 rfl) ?_
  refine lv_icmp_le (tgt := 46) hx hb dJ_rangeCheck_2 (by decide) (fun _ => ?_) (fun hc => absurd (Int32.not_lt.mp hin.1) hc)
  refine lv_iload_n hx hb dJ_rangeCheck_46 rfl (lv_at hl 1 rfl) ?_
  refine lv_if_ge (tgt := 59) hx hb dJ_rangeCheck_47 (by decide) (fun _ => ?_) (fun hc => absurd (Int32.not_lt.mp hin.2.1) hc)
  refine lv_iload_n hx hb dJ_rangeCheck_59 rfl (lv_at hl 2 rfl) ?_
  refine lv_iload_n hx hb dJ_rangeCheck_60 rfl (lv_at hl 0 rfl) ?_
  refine lv_icmp_le (tgt := 73) hx hb dJ_rangeCheck_61 (by decide) (fun _ => ?_) (fun hc => absurd (Int32.not_lt.mp hin.2.2) hc)
  exact W.vret hx hb hr (fun t ht hW => ⟨rfl, trivial, ht⟩) (fun q h => by cases h) dJ_rangeCheck_73 hlocks
set_option maxHeartbeats 4000000 in
set_option maxRecDepth 100000 in
theorem bJ_fillr {p : Program} {l : Launch} {e : Env} {R : Room} {s : State} {m : MethodId} {args : Array Value} {below : List Frame} {meth : Method} {c : Code} {D : va_G} {cl : List vw_C} {tys : List (ClassId × FieldType)} {A : Nat → Prop} (hx : p.tables.exec = Jvm.exec) (hb : c.code = cJ_fillr) (hr : meth.sig.returnType = none) (hlocks : meth.locks = false) (hK : va_K D cl tys s) {ws : va_W} {q0 t0 a : Nat} {cA : ClassId} {n lo hi : Nat} {f : Nat → Int32} {v : Int32} (ha : ws[q0]? = some (a, .inl (cA, n, .inl f))) (ht : tys[t0]? = some (cA, .int)) (hhi : hi ≤ n) (hn : n < 2 ^ 31) :
    ∀ (k i : Nat) (H : Heap) (locs : List Loc) (ls : Array Slot), lo ≤ i → i ≤ hi → hi + 1 ≤ i + k → va_P D cl (ws.set q0 (j_e a cA n (x_fl f lo i v))) H → va_D A (ws.set q0 (j_e a cA n (x_fl f lo i v))) → va_S A s.heap H locs → lv_has ls 5 [(0, .ref a), (2, .int (nI hi)), (3, .int v), (4, .int (nI i))] → W p l e R s m args below meth c H locs 0 0 (MQ below (va_Qv (fun _ : Unit => True) (fun _ t => j_B D cl tys (ws.set q0 (j_e a cA n (x_fl f lo hi v))) A t) A) args s 0 0 A) (F0 m 10 ls []) := by
  have hq : q0 < ws.length := (List.getElem?_eq_some_iff.mp ha).1
  intro k
  induction k with
  | zero => intro i H locs ls h0 h1 h2; omega
  | succ k ih =>
    intro i H locs ls hlo hi2 hk hP hD hS hl
    refine lv_iload hx hb dJ_fillr_10 (lv_at hl 3 rfl) ?_
    refine lv_iload_n hx hb dJ_fillr_12 rfl (lv_at hl 1 rfl) ?_
    refine lv_icmp_ge (tgt := 27) hx hb dJ_fillr_13 (by decide) (fun hc => ?_) (fun hc => ?_)
    · have e : i = hi := by have := (nI_leI (by omega) (by omega)).mp hc; omega
      subst e
      exact W.vret hx hb hr (fun t ht hW => ⟨⟨(), rfl, trivial, by rw [ht]; exact hP, va_K.moved hW.alike hK, hD⟩, hS.F ht⟩) hS.2.2 dJ_fillr_27 hlocks
    · have hlt : i < hi := by
        rcases Nat.lt_or_ge i hi with h | h
        · exact h
        · exact absurd (nI_le h (by omega)) hc
      refine lv_aload_n hx hb dJ_fillr_16 rfl (lv_at hl 0 rfl) ?_
      refine lv_iload hx hb dJ_fillr_17 (lv_at hl 3 rfl) ?_
      refine lv_iload_n hx hb dJ_fillr_19 rfl (lv_at hl 2 rfl) ?_
      refine va_iast (cA := cA) (n := n) (f := x_fl f lo i v) hx hb hK hP hD hS q0 t0 (List.getElem?_set_self hq) ht (vp_in_nI (by omega) hn) dJ_fillr_20 (fun H locs hP hD hS => ?_)
      rw [List.set_set, nI_clamp (by omega), x_fl_s f v hlo] at hP hD
      refine lv_iinc (v := nI (i + 1)) (lv' := [(4, .int (nI (i + 1))), (0, .ref a), (2, .int (nI hi)), (3, .int v)]) hx hb dJ_fillr_21 hl (k := 3) rfl (nI_1 i) (by decide) rfl (fun ls hl => ?_)
      refine lv_goto (tgt := 10) hx hb dJ_fillr_24 (by decide) ?_
      exact ih (i + 1) H locs ls (by omega) hlt (by omega) hP hD hS (lv_sub hl [1, 2, 3, 0] rfl)
theorem j_rcS : GoodIn lw_g (wsS RJ 13 yJ_rangeCheck (.code yJ_rangeCheck cJ_rangeCheck 3 none :: lw_g)) := gw_s (gm 157 rfl rfl) (gm 158 rfl rfl) (gm 46 rfl rfl) (gm 159 rfl rfl)
set_option maxHeartbeats 4000000 in
set_option maxRecDepth 100000 in
theorem cJm_fillr (l : Launch) (D : va_G) (cl : List vw_C) (tys : List (ClassId × FieldType)) (ws : va_W) (q0 t0 : Nat) {a : Nat} {cA : ClassId} {n : Nat} {f : Nat → Int32} {lo hi v : Int32} (ha : ws[q0]? = some (a, .inl (cA, n, .inl f))) (ht : tys[t0]? = some (cA, .int)) (hin : ¬ hi < lo ∧ ¬ lo < 0 ∧ ¬ nI n < hi ∧ n < 2 ^ 31) (sz : Nat) : Met l yJ_fillr (.code yJ_fillr cJ_fillr 5 none :: lw_g) { frames := 1, cells := 0, slots := 0, locals := 22 } (j_Pc D cl tys ws sz [.ref a, .int lo, .int hi, .int v]) (va_Qv (fun _ : Unit => True) (fun _ t => j_B D cl tys (ws.set q0 (j_e a cA n (x_fl f lo.toNatClampNeg hi.toNatClampNeg v))) (va_A ws sz) t) (va_A ws sz)) 0 0 (va_A ws sz) := by
  have hq : q0 < ws.length := (List.getElem?_eq_some_iff.mp ha).1
  obtain ⟨h1, h2, h3, hn⟩ := hin
  obtain ⟨lo', hl1, rfl⟩ := nI_of h2
  obtain ⟨hi', hh1, rfl⟩ := nI_of (x := hi) (fun h => h2 (Int32.lt_of_le_of_lt (Int32.not_lt.mp h1) h))
  have e1 : lo' ≤ hi' := (nI_leI hl1 hh1).mp (Int32.not_lt.mp h1)
  have e2 : hi' ≤ n := (nI_leI hh1 hn).mp (Int32.not_lt.mp h3)
  rw [nI_clamp hl1, nI_clamp hh1]
  refine Met.ofW (cc := cJ_fillr) (maxL := 5) (ret := none) (by decide) rfl ?_
  intro p e s m args below meth c s₁ B hml hv
  obtain ⟨rfl, hsz, hP, hK, hD0⟩ := hv
  have hx := B.exec
  have hb := B.bytes
  have hr := B.returns
  have hlocks := B.notSynchronized
  have hts := atoms_spec (ws := .code yJ_fillr cJ_fillr 5 none :: lw_g) B.pre
  have hts : ∀ w ∈ lw_g, w.before _ s = true := fun w h => hts w (List.mem_cons_of_mem _ h)
  have hown : s.vm.findClass RJ = some m.cls := findClass_of_methodNamed B.named
  subst hsz
  have hD := hD0.self (sz := s.heap.size)
  have hS : va_S (va_A ws s.heap.size) s.heap s.heap [] := va_S.rf
  have hw : ws.set q0 (j_e a cA n (x_fl f lo' lo' v)) = ws := by
    rw [x_fl_0]
    exact List.ext_getElem? fun i => by
      by_cases h : q0 = i
      · subst h; rw [List.getElem?_set_self hq, ha]; rfl
      · rw [List.getElem?_set_ne h]
  have hl := lv_entry ([.ref a, .int (nI lo'), .int (nI hi'), .int v]) (n := 5) (Nat.le_of_ble_eq_true rfl)
  rw [lg_entry_eq]
  generalize (lg_sl ([.ref a, .int (nI lo'), .int (nI hi'), .int v]) ++ List.replicate (5 - (lg_sl ([.ref a, .int (nI lo'), .int (nI hi'), .int v])).length) Slot.unset).toArray = ls at hl ⊢
  have hl : lv_has ls 5 [(0, .ref a), (1, .int (nI lo')), (2, .int (nI hi')), (3, .int v)] := hl
  refine lv_aload_n hx hb dJ_fillr_0 rfl (lv_at hl 0 rfl) ?_
  refine va_alen (v := nI n) hx hb hK hP q0 t0 ha ht rfl dJ_fillr_1 ?_
  refine lv_iload_n hx hb dJ_fillr_2 rfl (lv_at hl 1 rfl) ?_
  refine lv_iload_n hx hb dJ_fillr_3 rfl (lv_at hl 2 rfl) ?_
  refine va_csv (W.runS (As := [.int (nI n), .int (nI lo'), .int (nI hi')]) (rest := []) ⟨hx, hb, hml, hown, hts⟩ (cJm_rangeCheck l ⟨h1, h2, h3⟩) (cwS 3 hts j_rcS rfl rfl rfl (by decide +kernel) ⟨Nat.le_of_ble_eq_true rfl, Nat.le_of_ble_eq_true rfl⟩) ⟨fun a U g mk q => q, fun U hU hW => ⟨rfl, trivial⟩⟩ rfl rfl hl.1 rfl (lv_room (Nat.le_of_ble_eq_true rfl)) dJ_fillr_4 ⟨Nat.le_of_ble_eq_true rfl, Nat.le_of_ble_eq_true rfl⟩) (fun _ => ?_)
  refine lv_iload_n hx hb dJ_fillr_7 rfl (lv_at hl 1 rfl) ?_
  refine lv_istore (lv' := [(4, .int (nI lo')), (0, .ref a), (1, .int (nI lo')), (2, .int (nI hi')), (3, .int v)]) hx hb dJ_fillr_8 hl (by decide) rfl (fun ls hl => ?_)
  exact bJ_fillr hx hb hr hlocks hK ha ht e2 hn (hi' + 1) lo' _ _ ls (Nat.le_refl _) e1 (by omega) (by rw [hw]; exact hP) (by rw [hw]; exact hD) hS (lv_sub hl [1, 3, 4, 0] rfl)

