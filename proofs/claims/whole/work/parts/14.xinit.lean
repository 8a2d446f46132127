def limV (v : Int32) : Int32 := if 16 < (if v < 512 then v else 512) then (if v < 512 then v else 512) else 16
def limN (v : Int32) : Nat := (limV v).toNatClampNeg
theorem limV_spec (v : Int32) : limV v = nI (limN v) ∧ 16 ≤ limN v ∧ limN v ≤ 512 := by
  have key : ¬ limV v < 16 ∧ limV v ≤ 512 := by
    unfold limV
    by_cases h1 : v < 512
    · rw [if_pos h1]
      by_cases h2 : 16 < v
      · rw [if_pos h2]; exact ⟨fun h => absurd (Int32.lt_trans h2 h) (by decide), Int32.le_of_lt h1⟩
      · rw [if_neg h2]; decide
    · rw [if_neg h1]; decide
  have h0 : ¬ limV v < 0 := fun h => key.1 (Int32.lt_trans h (by decide))
  obtain ⟨j, hj, e⟩ := nI_of h0
  have e2 : limN v = j := by unfold limN; rw [e, nI_clamp hj]
  rw [e2]
  refine ⟨e, ?_, ?_⟩
  · have := key.1; rw [e] at this
    exact Nat.le_of_not_lt fun h => this (nI_lt (b := 16) h (by decide))
  · have := key.2; rw [e] at this
    exact (nI_leI (b := 512) hj (by decide)).mp this
theorem limV_mod (v : Int32) : (if v < 16 then 16 else if 512 < v then 512 else v) = limV v := by
  unfold limV
  by_cases h1 : v < 512
  · rw [if_pos h1, if_neg (fun h => absurd (Int32.lt_trans h h1) (by decide +revert) : ¬ (512 : Int32) < v)]
    by_cases h2 : v < 16
    · rw [if_pos h2, if_neg (fun h => Int32.lt_irrefl (Int32.lt_trans h h2))]
    · rw [if_neg h2]
      by_cases h3 : 16 < v
      · rw [if_pos h3]
      · rw [if_neg h3]
        exact Int32.le_antisymm (Int32.not_lt.mp h3) (Int32.not_lt.mp h2)
  · rw [if_neg h1, if_neg (fun h => h1 (Int32.lt_trans h (by decide)))]
    by_cases h2 : 512 < v
    · rw [if_pos h2]; decide
    · rw [if_neg h2, Int32.le_antisymm (Int32.not_lt.mp h2) (Int32.not_lt.mp h1)]; decide
def x_f0 : List Value := [.int 0, .null, .null, .null, .null, .int 0, .int 0, .int 0, .int 0]
def x_i0 : XS := (fun _ => 0, fun _ => 0, fun _ => 0, fun _ => 0, 0, 0, 0, 0)
def x_i1 (n : Nat) : XS := x_stp (x_svi (x_sen (x_sla (x_st x_i0 (x_fl (x_t x_i0) 0 n (-1))) 0) 0) (-1)) (-1)
def m_f0 : List Value := [.int 0, .int 0, .null, .int 0, .null, .null, .null, .null, .int 0, .int 0]
def m_i1 : MS := (fun _ => 0, fun _ => 0, fun _ => 0, fun _ => 0, fun _ => 0, 0, 0, 0, -1)
theorem ty_one {D : va_G} {cl : List vw_C} {tys : List (ClassId × FieldType)} {s : State} (hK : va_K D cl tys s) (i j : Nat) {c1 c2 : ClassId} (h1 : tys[i]? = some (c1, .int)) (h2 : tys[j]? = some (c2, .int)) : c2 = c1 := by
  have e1 : s.vm.findClass _ = some c1 := (hK.2 i _ h1).2
  have e2 : s.vm.findClass _ = some c2 := (hK.2 j _ h2).2
  exact Option.some.inj (e2.symm.trans e1)
theorem a0_i (n : Nat) : ∀ cA : ClassId, vp_cell cA (n, .inl (fun _ => 0)) = arrV cA n (fun _ => defaultValue .int) := fun _ => rfl
theorem a0_z (n : Nat) : ∀ cA : ClassId, vp_cell cA (n, .inl (fun _ => 0)) = arrV cA n (fun _ => defaultValue .boolean) := fun _ => rfl
set_option maxHeartbeats 4000000 in
set_option maxRecDepth 100000 in
theorem cX_init (l : Launch) (D : va_G) (h : Nat) (lim0 : Int32) (sz : Nat) : Met l yX0_init (.code yX0_init cX0_init 2 none :: lw_g) { frames := 1, cells := 4, slots := 2048, locals := 40 } (va_Pc [.ref h, .int lim0] (fun U => U.heap.size = sz ∧ va_P D vcl [(h, .inr (0, x_f0))] U.heap ∧ va_K D vcl [] U ∧ va_D (fun _ => True) [(h, .inr (0, x_f0))])) (va_Qv (fun ad : XA => x_h ad = h ∧ x_n ad = limN lim0 ∧ x_lim ad = nI (x_n ad)) (fun ad t => x_B D ad (va_A [(h, .inr (0, x_f0))] sz) (x_i1 (x_n ad)) t) (va_A [(h, .inr (0, x_f0))] sz)) 4 2048 (va_A [(h, .inr (0, x_f0))] sz) := by
  refine Met.ofW (cc := cX0_init) (maxL := 2) (ret := none) (by decide) rfl ?_
  intro p e s m args below meth c s₁ B hml hv
  obtain ⟨rfl, hsz, hP, hK, hD0⟩ := hv
  have hx := B.exec
  have hb := B.bytes
  have hr := B.returns
  have hlocks := B.notSynchronized
  have hts := atoms_spec (ws := .code yX0_init cX0_init 2 none :: lw_g) B.pre
  have hts : ∀ w ∈ lw_g, w.before _ s = true := fun w h => hts w (List.mem_cons_of_mem _ h)
  have hown : s.vm.findClass RX0 = some m.cls := findClass_of_methodNamed B.named
  have hin : meth.name = "<init>" := (name_of_methodNamed B.named B.method).1
  have C : x_C p s m _ meth c cX0_init 2 none := ⟨hx, hb, hml, hown, hts, hr, hlocks⟩
  subst hsz
  have hD := hD0.self (sz := s.heap.size)
  generalize hAe : va_A [(h, .inr (0, x_f0))] s.heap.size = A at hD ⊢
  have hA : ∀ q : Nat, s.heap.size ≤ q → A q := fun q h => by rw [← hAe]; exact Or.inr h
  have hS : va_S A s.heap s.heap [] := va_S.rf
  obtain ⟨hlim, hn1, hn2⟩ := limV_spec lim0
  generalize limN lim0 = n at hlim hn1 hn2 ⊢
  have hl := lv_entry ([.ref h, .int lim0]) (n := 2) (Nat.le_of_ble_eq_true rfl)
  rw [lg_entry_eq]
  generalize (lg_sl ([.ref h, .int lim0]) ++ List.replicate (2 - (lg_sl ([.ref h, .int lim0])).length) Slot.unset).toArray = ls at hl ⊢
  have hl : lv_has ls 2 [(0, .ref h), (1, .int lim0)] := hl
  generalize hQ : MQ below _ _ s 4 2048 A = QQ
  change W p l e { frames := 1, cells := 4, slots := 2048, locals := 40 } s m _ below meth c s.heap [] 0 0 _ _
  refine lv_aload_n hx hb dX0_init_0 rfl (lv_at hl 0 rfl) ?_
  refine W.objInit hx hb hown (hts (.methodLink RX0 3 objectInit) (gm 54 rfl rfl)) (hts (.instanceMethod objectInit) (gm 55 rfl rfl)) (hts (.code objectInit ⟨#[0xb1]⟩ 1 none) (gm 56 rfl rfl)) rfl (by rw [hml]; exact hl.1) rfl dX0_init_1 (Nat.le_of_ble_eq_true rfl) (Nat.le_of_ble_eq_true rfl) ?_
  refine W.eq (g2 := F0 m 4 ls []) rfl ?_
  refine lv_aload_n hx hb dX0_init_4 rfl (lv_at hl 0 rfl) ?_
  refine lv_bipush (v := 16) hx hb dX0_init_5 (by decide) ?_
  refine lv_sipush (v := 512) hx hb dX0_init_7 (by decide) ?_
  refine lv_iload_n hx hb dX0_init_10 rfl (lv_at hl 1 rfl) ?_
  refine x_mmin C hl.1 (Nat.le_of_ble_eq_true rfl) (Nat.le_of_ble_eq_true rfl) (by decide) dX0_init_11 ?_
  refine x_mmax C hl.1 (Nat.le_of_ble_eq_true rfl) (Nat.le_of_ble_eq_true rfl) (by decide) dX0_init_14 ?_
  refine lv_topi (fun w hw => ?_)
  unfold limV at hlim
  obtain rfl : w = nI n := hw.trans hlim
  refine va_putF (D := D) (ci := 0) (v := .int (nI n)) (ty := .int) (C := RX0) (T := TX0) (N := 9) hx hb hts x_in tyX0 tyX0_ok nmX0 hown hK hP hD hS 0 rfl rfl 0 (by decide) (hts _ x_l_lim) (fun _ h9 => h9) rfl hin rfl (by decide +kernel) rfl rfl (Nat.le_of_ble_eq_true rfl) dX0_init_17 (fun H locs hP hD hS => ?_)
  replace hP : va_P D vcl [(h, .inr (0, [.int (nI n), .null, .null, .null, .null, .int 0, .int 0, .int 0, .int 0]))] H := hP
  replace hD : va_D A [(h, .inr (0, [.int (nI n), .null, .null, .null, .null, .int 0, .int 0, .int 0, .int 0]))] := hD
  refine lv_aload_n hx hb dX0_init_20 rfl (lv_at hl 0 rfl) ?_
  refine lv_aload_n hx hb dX0_init_21 rfl (lv_at hl 0 rfl) ?_
  refine va_get (D := D) (ci := 0) (v := .int (nI n)) (C := RX0) (T := TX0) (N := 9) hx hb hts x_in hown hK hP 0 rfl rfl 0 (by decide) (hts _ x_l_lim) (fun _ h9 => h9) rfl dX0_init_22 ?_
  refine va_newa (atype := .int) (rest := [.ref h]) hx hb (hts (.arrayClass .int) (gm 94 rfl rfl)) (ty := .int) rfl hK hP hD hS hA (n := nI n) (N' := n) (a0_i n) (nI_pos (by omega)) (nI_clamp (by omega)) (by show n * 4 ≤ _; omega) (show 0 + 1 ≤ 4 by omega) (show 0 + n ≤ 2048 by omega) dX0_init_25 (fun q1 c1 H hK hP hD hS => ?_)
  replace hP : va_P D vcl [(h, .inr (0, [.int (nI n), .null, .null, .null, .null, .int 0, .int 0, .int 0, .int 0])), (q1, .inl (c1, n, .inl (fun _ => 0)))] H := hP
  replace hD : va_D A [(h, .inr (0, [.int (nI n), .null, .null, .null, .null, .int 0, .int 0, .int 0, .int 0])), (q1, .inl (c1, n, .inl (fun _ => 0)))] := hD
  refine W.widen (k := 1) (n := 512) (show 0 + 1 ≤ 1 by omega) (show 0 + n ≤ 512 by omega) ?_
  refine va_putF (D := D) (ci := 0) (v := .ref q1) (ty := .array .int) (C := RX0) (T := TX0) (N := 9) hx hb hts x_in tyX0 tyX0_ok nmX0 hown hK hP hD hS 0 rfl rfl 1 (by decide) (hts _ x_l_u) (fun _ h9 => h9) rfl hin rfl (by decide +kernel) rfl rfl (Nat.le_of_ble_eq_true rfl) dX0_init_27 (fun H locs hP hD hS => ?_)
  replace hP : va_P D vcl [(h, .inr (0, [.int (nI n), .ref q1, .null, .null, .null, .int 0, .int 0, .int 0, .int 0])), (q1, .inl (c1, n, .inl (fun _ => 0)))] H := hP
  replace hD : va_D A [(h, .inr (0, [.int (nI n), .ref q1, .null, .null, .null, .int 0, .int 0, .int 0, .int 0])), (q1, .inl (c1, n, .inl (fun _ => 0)))] := hD
  refine lv_aload_n hx hb dX0_init_30 rfl (lv_at hl 0 rfl) ?_
  refine lv_aload_n hx hb dX0_init_31 rfl (lv_at hl 0 rfl) ?_
  refine va_get (D := D) (ci := 0) (v := .int (nI n)) (C := RX0) (T := TX0) (N := 9) hx hb hts x_in hown hK hP 0 rfl rfl 0 (by decide) (hts _ x_l_lim) (fun _ h9 => h9) rfl dX0_init_32 ?_
  refine va_newa (atype := .int) (rest := [.ref h]) hx hb (hts (.arrayClass .int) (gm 94 rfl rfl)) (ty := .int) rfl hK hP hD hS hA (n := nI n) (N' := n) (a0_i n) (nI_pos (by omega)) (nI_clamp (by omega)) (by show n * 4 ≤ _; omega) (show 1 + 1 ≤ 4 by omega) (show 512 + n ≤ 2048 by omega) dX0_init_35 (fun q2 c2 H hK hP hD hS => ?_)
  have ec2 : c1 = c2 := (ty_one hK 0 1 rfl rfl).symm
  subst ec2
  replace hK : va_K D vcl [(c1, .int)] s := hK.sub [0] rfl
  replace hP : va_P D vcl [(h, .inr (0, [.int (nI n), .ref q1, .null, .null, .null, .int 0, .int 0, .int 0, .int 0])), (q1, .inl (c1, n, .inl (fun _ => 0))), (q2, .inl (c1, n, .inl (fun _ => 0)))] H := hP
  replace hD : va_D A [(h, .inr (0, [.int (nI n), .ref q1, .null, .null, .null, .int 0, .int 0, .int 0, .int 0])), (q1, .inl (c1, n, .inl (fun _ => 0))), (q2, .inl (c1, n, .inl (fun _ => 0)))] := hD
  refine W.widen (k := 2) (n := 1024) (show 1 + 1 ≤ 2 by omega) (show 512 + n ≤ 1024 by omega) ?_
  refine va_putF (D := D) (ci := 0) (v := .ref q2) (ty := .array .int) (C := RX0) (T := TX0) (N := 9) hx hb hts x_in tyX0 tyX0_ok nmX0 hown hK hP hD hS 0 rfl rfl 2 (by decide) (hts _ x_l_z) (fun _ h9 => h9) rfl hin rfl (by decide +kernel) rfl rfl (Nat.le_of_ble_eq_true rfl) dX0_init_37 (fun H locs hP hD hS => ?_)
  replace hP : va_P D vcl [(h, .inr (0, [.int (nI n), .ref q1, .ref q2, .null, .null, .int 0, .int 0, .int 0, .int 0])), (q1, .inl (c1, n, .inl (fun _ => 0))), (q2, .inl (c1, n, .inl (fun _ => 0)))] H := hP
  replace hD : va_D A [(h, .inr (0, [.int (nI n), .ref q1, .ref q2, .null, .null, .int 0, .int 0, .int 0, .int 0])), (q1, .inl (c1, n, .inl (fun _ => 0))), (q2, .inl (c1, n, .inl (fun _ => 0)))] := hD
  refine lv_aload_n hx hb dX0_init_40 rfl (lv_at hl 0 rfl) ?_
  refine lv_aload_n hx hb dX0_init_41 rfl (lv_at hl 0 rfl) ?_
  refine va_get (D := D) (ci := 0) (v := .int (nI n)) (C := RX0) (T := TX0) (N := 9) hx hb hts x_in hown hK hP 0 rfl rfl 0 (by decide) (hts _ x_l_lim) (fun _ h9 => h9) rfl dX0_init_42 ?_
  refine va_newa (atype := .int) (rest := [.ref h]) hx hb (hts (.arrayClass .int) (gm 94 rfl rfl)) (ty := .int) rfl hK hP hD hS hA (n := nI n) (N' := n) (a0_i n) (nI_pos (by omega)) (nI_clamp (by omega)) (by show n * 4 ≤ _; omega) (show 2 + 1 ≤ 4 by omega) (show 1024 + n ≤ 2048 by omega) dX0_init_45 (fun q3 c3 H hK hP hD hS => ?_)
  have ec3 : c1 = c3 := (ty_one hK 0 1 rfl rfl).symm
  subst ec3
  replace hK : va_K D vcl [(c1, .int)] s := hK.sub [0] rfl
  replace hP : va_P D vcl [(h, .inr (0, [.int (nI n), .ref q1, .ref q2, .null, .null, .int 0, .int 0, .int 0, .int 0])), (q1, .inl (c1, n, .inl (fun _ => 0))), (q2, .inl (c1, n, .inl (fun _ => 0))), (q3, .inl (c1, n, .inl (fun _ => 0)))] H := hP
  replace hD : va_D A [(h, .inr (0, [.int (nI n), .ref q1, .ref q2, .null, .null, .int 0, .int 0, .int 0, .int 0])), (q1, .inl (c1, n, .inl (fun _ => 0))), (q2, .inl (c1, n, .inl (fun _ => 0))), (q3, .inl (c1, n, .inl (fun _ => 0)))] := hD
  refine W.widen (k := 3) (n := 1536) (show 2 + 1 ≤ 3 by omega) (show 1024 + n ≤ 1536 by omega) ?_
  refine va_putF (D := D) (ci := 0) (v := .ref q3) (ty := .array .int) (C := RX0) (T := TX0) (N := 9) hx hb hts x_in tyX0 tyX0_ok nmX0 hown hK hP hD hS 0 rfl rfl 3 (by decide) (hts _ x_l_t) (fun _ h9 => h9) rfl hin rfl (by decide +kernel) rfl rfl (Nat.le_of_ble_eq_true rfl) dX0_init_47 (fun H locs hP hD hS => ?_)
  replace hP : va_P D vcl [(h, .inr (0, [.int (nI n), .ref q1, .ref q2, .ref q3, .null, .int 0, .int 0, .int 0, .int 0])), (q1, .inl (c1, n, .inl (fun _ => 0))), (q2, .inl (c1, n, .inl (fun _ => 0))), (q3, .inl (c1, n, .inl (fun _ => 0)))] H := hP
  replace hD : va_D A [(h, .inr (0, [.int (nI n), .ref q1, .ref q2, .ref q3, .null, .int 0, .int 0, .int 0, .int 0])), (q1, .inl (c1, n, .inl (fun _ => 0))), (q2, .inl (c1, n, .inl (fun _ => 0))), (q3, .inl (c1, n, .inl (fun _ => 0)))] := hD
  refine lv_aload_n hx hb dX0_init_50 rfl (lv_at hl 0 rfl) ?_
  refine lv_aload_n hx hb dX0_init_51 rfl (lv_at hl 0 rfl) ?_
  refine va_get (D := D) (ci := 0) (v := .int (nI n)) (C := RX0) (T := TX0) (N := 9) hx hb hts x_in hown hK hP 0 rfl rfl 0 (by decide) (hts _ x_l_lim) (fun _ h9 => h9) rfl dX0_init_52 ?_
  refine va_newa (atype := .int) (rest := [.ref h]) hx hb (hts (.arrayClass .int) (gm 94 rfl rfl)) (ty := .int) rfl hK hP hD hS hA (n := nI n) (N' := n) (a0_i n) (nI_pos (by omega)) (nI_clamp (by omega)) (by show n * 4 ≤ _; omega) (show 3 + 1 ≤ 4 by omega) (show 1536 + n ≤ 2048 by omega) dX0_init_55 (fun q4 c4 H hK hP hD hS => ?_)
  have ec4 : c1 = c4 := (ty_one hK 0 1 rfl rfl).symm
  subst ec4
  replace hK : va_K D vcl [(c1, .int)] s := hK.sub [0] rfl
  replace hP : va_P D vcl [(h, .inr (0, [.int (nI n), .ref q1, .ref q2, .ref q3, .null, .int 0, .int 0, .int 0, .int 0])), (q1, .inl (c1, n, .inl (fun _ => 0))), (q2, .inl (c1, n, .inl (fun _ => 0))), (q3, .inl (c1, n, .inl (fun _ => 0))), (q4, .inl (c1, n, .inl (fun _ => 0)))] H := hP
  replace hD : va_D A [(h, .inr (0, [.int (nI n), .ref q1, .ref q2, .ref q3, .null, .int 0, .int 0, .int 0, .int 0])), (q1, .inl (c1, n, .inl (fun _ => 0))), (q2, .inl (c1, n, .inl (fun _ => 0))), (q3, .inl (c1, n, .inl (fun _ => 0))), (q4, .inl (c1, n, .inl (fun _ => 0)))] := hD
  refine W.widen (k := 4) (n := 2048) (show 3 + 1 ≤ 4 by omega) (show 1536 + n ≤ 2048 by omega) ?_
  refine va_putF (D := D) (ci := 0) (v := .ref q4) (ty := .array .int) (C := RX0) (T := TX0) (N := 9) hx hb hts x_in tyX0 tyX0_ok nmX0 hown hK hP hD hS 0 rfl rfl 4 (by decide) (hts _ x_l_r) (fun _ h9 => h9) rfl hin rfl (by decide +kernel) rfl rfl (Nat.le_of_ble_eq_true rfl) dX0_init_57 (fun H locs hP hD hS => ?_)
  replace hP : va_P D vcl [(h, .inr (0, [.int (nI n), .ref q1, .ref q2, .ref q3, .ref q4, .int 0, .int 0, .int 0, .int 0])), (q1, .inl (c1, n, .inl (fun _ => 0))), (q2, .inl (c1, n, .inl (fun _ => 0))), (q3, .inl (c1, n, .inl (fun _ => 0))), (q4, .inl (c1, n, .inl (fun _ => 0)))] H := hP
  replace hD : va_D A [(h, .inr (0, [.int (nI n), .ref q1, .ref q2, .ref q3, .ref q4, .int 0, .int 0, .int 0, .int 0])), (q1, .inl (c1, n, .inl (fun _ => 0))), (q2, .inl (c1, n, .inl (fun _ => 0))), (q3, .inl (c1, n, .inl (fun _ => 0))), (q4, .inl (c1, n, .inl (fun _ => 0)))] := hD
  have Wd : x_W D (h, q1, q2, q3, q4, c1, n, nI n) x_i0 A s H locs := ⟨hP, hD, hS, hK, hA⟩
  replace hl : lv_has ls 2 [(0, .ref (x_h (h, q1, q2, q3, q4, c1, n, nI n))), (1, .int lim0)] := hl
  generalize had : (h, q1, q2, q3, q4, c1, n, nI n) = ad at Wd hl
  have e1 : x_h ad = h := by rw [← had]; rfl
  have e2 : x_n ad = n := by rw [← had]; rfl
  have e3 : x_lim ad = nI n := by rw [← had]; rfl
  refine lv_aload_n hx hb dX0_init_60 rfl (lv_at hl 0 rfl) ?_
  refine x_get_t C Wd dX0_init_61 ?_
  refine lv_iconst (v := (-1)) hx hb dX0_init_64 (by decide) ?_
  refine x_fill_t (rest := []) C Wd (by rw [e2]; omega) hl.1 (Nat.le_of_ble_eq_true rfl) (by decide) dX0_init_65 (fun H locs Wd => ?_)
  refine lv_aload_n hx hb dX0_init_68 rfl (lv_at hl 0 rfl) ?_
  refine lv_iconst (v := 0) hx hb dX0_init_69 (by decide) ?_
  refine x_put_la C Wd dX0_init_70 (fun H locs Wd => ?_)
  refine lv_aload_n hx hb dX0_init_73 rfl (lv_at hl 0 rfl) ?_
  refine lv_iconst (v := 0) hx hb dX0_init_74 (by decide) ?_
  refine x_put_en C Wd dX0_init_75 (fun H locs Wd => ?_)
  refine lv_aload_n hx hb dX0_init_78 rfl (lv_at hl 0 rfl) ?_
  refine lv_iconst (v := (-1)) hx hb dX0_init_79 (by decide) ?_
  refine x_put_vi C Wd dX0_init_80 (fun H locs Wd => ?_)
  refine lv_aload_n hx hb dX0_init_83 rfl (lv_at hl 0 rfl) ?_
  refine lv_iconst (v := (-1)) hx hb dX0_init_84 (by decide) ?_
  refine x_put_tp C Wd dX0_init_85 (fun H locs Wd => ?_)
  rw [← hQ]
  exact W.vret hx hb hr (fun t ht hW => ⟨⟨ad, rfl, ⟨e1, e2, by rw [e3, e2]⟩, by rw [ht]; exact Wd.1, va_K.moved hW.alike Wd.2.2.2.1, Wd.2.1⟩, Wd.2.2.1.F ht⟩) Wd.2.2.1.2.2 dX0_init_88 hlocks
