set_option maxHeartbeats 4000000 in
set_option maxRecDepth 100000 in
theorem cM_init (l : Launch) (D : va_G) (h : Nat) (lim0 : Int32) (sz : Nat) : Met l yX1_init (.code yX1_init cX1_init 2 none :: lw_g) { frames := 1, cells := 5, slots := 1544, locals := 30 } (va_Pc [.ref h, .int lim0] (fun U => U.heap.size = sz ∧ va_P D vcl [(h, .inr (1, m_f0))] U.heap ∧ va_K D vcl [] U ∧ va_D (fun _ => True) [(h, .inr (1, m_f0))])) (va_Qv (fun ad : MA => m_h ad = h ∧ m_lim ad = nI (limN lim0)) (fun ad t => m_B D ad (va_A [(h, .inr (1, m_f0))] sz) m_i1 t) (va_A [(h, .inr (1, m_f0))] sz)) 5 1544 (va_A [(h, .inr (1, m_f0))] sz) := by
  refine Met.ofW (cc := cX1_init) (maxL := 2) (ret := none) (by decide) rfl ?_
  intro p e s m args below meth c s₁ B hml hv
  obtain ⟨rfl, hsz, hP, hK, hD0⟩ := hv
  have hx := B.exec
  have hb := B.bytes
  have hr := B.returns
  have hlocks := B.notSynchronized
  have hts := atoms_spec (ws := .code yX1_init cX1_init 2 none :: lw_g) B.pre
  have hts : ∀ w ∈ lw_g, w.before _ s = true := fun w h => hts w (List.mem_cons_of_mem _ h)
  have hown : s.vm.findClass RX1 = some m.cls := findClass_of_methodNamed B.named
  have hin : meth.name = "<init>" := (name_of_methodNamed B.named B.method).1
  subst hsz
  have hD := hD0.self (sz := s.heap.size)
  generalize hAe : va_A [(h, .inr (1, m_f0))] s.heap.size = A at hD ⊢
  have hA : ∀ q : Nat, s.heap.size ≤ q → A q := fun q h => by rw [← hAe]; exact Or.inr h
  have hS : va_S A s.heap s.heap [] := va_S.rf
  obtain ⟨hlim, hn1, hn2⟩ := limV_spec lim0
  generalize limN lim0 = n at hlim hn1 hn2 ⊢
  have hl := lv_entry ([.ref h, .int lim0]) (n := 2) (Nat.le_of_ble_eq_true rfl)
  rw [lg_entry_eq]
  generalize (lg_sl ([.ref h, .int lim0]) ++ List.replicate (2 - (lg_sl ([.ref h, .int lim0])).length) Slot.unset).toArray = ls at hl ⊢
  have hl : lv_has ls 2 [(0, .ref h), (1, .int lim0)] := hl
  generalize hQ : MQ below _ _ s 5 1544 A = QQ
  change W p l e { frames := 1, cells := 5, slots := 1544, locals := 30 } s m _ below meth c s.heap [] 0 0 _ _
  refine lv_aload_n hx hb dX1_init_0 rfl (lv_at hl 0 rfl) ?_
  refine W.objInit hx hb hown (hts (.methodLink RX1 1 objectInit) (gm 278 rfl rfl)) (hts (.instanceMethod objectInit) (gm 55 rfl rfl)) (hts (.code objectInit ⟨#[0xb1]⟩ 1 none) (gm 56 rfl rfl)) rfl (by rw [hml]; exact hl.1) rfl dX1_init_1 (Nat.le_of_ble_eq_true rfl) (Nat.le_of_ble_eq_true rfl) ?_
  refine W.eq (g2 := F0 m 4 ls []) rfl ?_
  refine lv_aload_n hx hb dX1_init_4 rfl (lv_at hl 0 rfl) ?_
  refine lv_sipush (v := 512) hx hb dX1_init_5 (by decide) ?_
  refine va_newa (atype := .int) (rest := [.ref h]) hx hb (hts (.arrayClass .int) (gm 94 rfl rfl)) (ty := .int) rfl hK hP hD hS hA (n := 512) (N' := 512) (a0_i 512) (by decide) (by decide) (by decide) (by decide) (by decide) dX1_init_8 (fun q1 c1 H hK hP hD hS => ?_)
  replace hP : va_P D vcl [(h, .inr (1, [.int 0, .int 0, .null, .int 0, .null, .null, .null, .null, .int 0, .int 0])), (q1, .inl (c1, 512, .inl (fun _ => 0)))] H := hP
  replace hD : va_D A [(h, .inr (1, [.int 0, .int 0, .null, .int 0, .null, .null, .null, .null, .int 0, .int 0])), (q1, .inl (c1, 512, .inl (fun _ => 0)))] := hD
  refine W.widen (k := 1) (n := 512) (by decide) (by decide) ?_
  refine va_putF (D := D) (ci := 1) (v := .ref q1) (ty := .array .int) (C := RX1) (T := TX1) (N := 10) hx hb hts m_in tyX1 tyX1_ok nmX1 hown hK hP hD hS 0 rfl rfl 2 (by decide) (hts _ m_l_un) (fun _ h9 => h9) rfl hin rfl (by decide +kernel) rfl rfl (Nat.le_of_ble_eq_true rfl) dX1_init_10 (fun H locs hP hD hS => ?_)
  replace hP : va_P D vcl [(h, .inr (1, [.int 0, .int 0, .ref q1, .int 0, .null, .null, .null, .null, .int 0, .int 0])), (q1, .inl (c1, 512, .inl (fun _ => 0)))] H := hP
  replace hD : va_D A [(h, .inr (1, [.int 0, .int 0, .ref q1, .int 0, .null, .null, .null, .null, .int 0, .int 0])), (q1, .inl (c1, 512, .inl (fun _ => 0)))] := hD
  refine lv_aload_n hx hb dX1_init_13 rfl (lv_at hl 0 rfl) ?_
  refine lv_sipush (v := 258) hx hb dX1_init_14 (by decide) ?_
  refine va_newa (atype := .int) (rest := [.ref h]) hx hb (hts (.arrayClass .int) (gm 94 rfl rfl)) (ty := .int) rfl hK hP hD hS hA (n := 258) (N' := 258) (a0_i 258) (by decide) (by decide) (by decide) (by decide) (by decide) dX1_init_17 (fun q2 c2 H hK hP hD hS => ?_)
  have ec2 : c1 = c2 := (ty_one hK 0 1 rfl rfl).symm
  subst ec2
  replace hK : va_K D vcl [(c1, .int)] s := hK.sub [0] rfl
  replace hP : va_P D vcl [(h, .inr (1, [.int 0, .int 0, .ref q1, .int 0, .null, .null, .null, .null, .int 0, .int 0])), (q1, .inl (c1, 512, .inl (fun _ => 0))), (q2, .inl (c1, 258, .inl (fun _ => 0)))] H := hP
  replace hD : va_D A [(h, .inr (1, [.int 0, .int 0, .ref q1, .int 0, .null, .null, .null, .null, .int 0, .int 0])), (q1, .inl (c1, 512, .inl (fun _ => 0))), (q2, .inl (c1, 258, .inl (fun _ => 0)))] := hD
  refine W.widen (k := 2) (n := 770) (by decide) (by decide) ?_
  refine va_putF (D := D) (ci := 1) (v := .ref q2) (ty := .array .int) (C := RX1) (T := TX1) (N := 10) hx hb hts m_in tyX1 tyX1_ok nmX1 hown hK hP hD hS 0 rfl rfl 4 (by decide) (hts _ m_l_fi) (fun _ h9 => h9) rfl hin rfl (by decide +kernel) rfl rfl (Nat.le_of_ble_eq_true rfl) dX1_init_19 (fun H locs hP hD hS => ?_)
  replace hP : va_P D vcl [(h, .inr (1, [.int 0, .int 0, .ref q1, .int 0, .ref q2, .null, .null, .null, .int 0, .int 0])), (q1, .inl (c1, 512, .inl (fun _ => 0))), (q2, .inl (c1, 258, .inl (fun _ => 0)))] H := hP
  replace hD : va_D A [(h, .inr (1, [.int 0, .int 0, .ref q1, .int 0, .ref q2, .null, .null, .null, .int 0, .int 0])), (q1, .inl (c1, 512, .inl (fun _ => 0))), (q2, .inl (c1, 258, .inl (fun _ => 0)))] := hD
  refine lv_aload_n hx hb dX1_init_22 rfl (lv_at hl 0 rfl) ?_
  refine lv_sipush (v := 258) hx hb dX1_init_23 (by decide) ?_
  refine va_newa (atype := .int) (rest := [.ref h]) hx hb (hts (.arrayClass .int) (gm 94 rfl rfl)) (ty := .int) rfl hK hP hD hS hA (n := 258) (N' := 258) (a0_i 258) (by decide) (by decide) (by decide) (by decide) (by decide) dX1_init_26 (fun q3 c3 H hK hP hD hS => ?_)
  have ec3 : c1 = c3 := (ty_one hK 0 1 rfl rfl).symm
  subst ec3
  replace hK : va_K D vcl [(c1, .int)] s := hK.sub [0] rfl
  replace hP : va_P D vcl [(h, .inr (1, [.int 0, .int 0, .ref q1, .int 0, .ref q2, .null, .null, .null, .int 0, .int 0])), (q1, .inl (c1, 512, .inl (fun _ => 0))), (q2, .inl (c1, 258, .inl (fun _ => 0))), (q3, .inl (c1, 258, .inl (fun _ => 0)))] H := hP
  replace hD : va_D A [(h, .inr (1, [.int 0, .int 0, .ref q1, .int 0, .ref q2, .null, .null, .null, .int 0, .int 0])), (q1, .inl (c1, 512, .inl (fun _ => 0))), (q2, .inl (c1, 258, .inl (fun _ => 0))), (q3, .inl (c1, 258, .inl (fun _ => 0)))] := hD
  refine W.widen (k := 3) (n := 1028) (by decide) (by decide) ?_
  refine va_putF (D := D) (ci := 1) (v := .ref q3) (ty := .array .int) (C := RX1) (T := TX1) (N := 10) hx hb hts m_in tyX1 tyX1_ok nmX1 hown hK hP hD hS 0 rfl rfl 5 (by decide) (hts _ m_l_sz) (fun _ h9 => h9) rfl hin rfl (by decide +kernel) rfl rfl (Nat.le_of_ble_eq_true rfl) dX1_init_28 (fun H locs hP hD hS => ?_)
  replace hP : va_P D vcl [(h, .inr (1, [.int 0, .int 0, .ref q1, .int 0, .ref q2, .ref q3, .null, .null, .int 0, .int 0])), (q1, .inl (c1, 512, .inl (fun _ => 0))), (q2, .inl (c1, 258, .inl (fun _ => 0))), (q3, .inl (c1, 258, .inl (fun _ => 0)))] H := hP
  replace hD : va_D A [(h, .inr (1, [.int 0, .int 0, .ref q1, .int 0, .ref q2, .ref q3, .null, .null, .int 0, .int 0])), (q1, .inl (c1, 512, .inl (fun _ => 0))), (q2, .inl (c1, 258, .inl (fun _ => 0))), (q3, .inl (c1, 258, .inl (fun _ => 0)))] := hD
  refine lv_aload_n hx hb dX1_init_31 rfl (lv_at hl 0 rfl) ?_
  refine lv_sipush (v := 258) hx hb dX1_init_32 (by decide) ?_
  refine va_newa (atype := .boolean) (rest := [.ref h]) hx hb (hts (.arrayClass .boolean) (gm 310 rfl rfl)) (ty := .boolean) rfl hK hP hD hS hA (n := 258) (N' := 258) (a0_z 258) (by decide) (by decide) (by decide) (by decide) (by decide) dX1_init_35 (fun q4 c4 H hK hP hD hS => ?_)
  replace hP : va_P D vcl [(h, .inr (1, [.int 0, .int 0, .ref q1, .int 0, .ref q2, .ref q3, .null, .null, .int 0, .int 0])), (q1, .inl (c1, 512, .inl (fun _ => 0))), (q2, .inl (c1, 258, .inl (fun _ => 0))), (q3, .inl (c1, 258, .inl (fun _ => 0))), (q4, .inl (c4, 258, .inl (fun _ => 0)))] H := hP
  replace hD : va_D A [(h, .inr (1, [.int 0, .int 0, .ref q1, .int 0, .ref q2, .ref q3, .null, .null, .int 0, .int 0])), (q1, .inl (c1, 512, .inl (fun _ => 0))), (q2, .inl (c1, 258, .inl (fun _ => 0))), (q3, .inl (c1, 258, .inl (fun _ => 0))), (q4, .inl (c4, 258, .inl (fun _ => 0)))] := hD
  refine W.widen (k := 4) (n := 1286) (by decide) (by decide) ?_
  refine va_putF (D := D) (ci := 1) (v := .ref q4) (ty := .array .boolean) (C := RX1) (T := TX1) (N := 10) hx hb hts m_in tyX1 tyX1_ok nmX1 hown hK hP hD hS 0 rfl rfl 6 (by decide) (hts _ m_l_us) (fun _ h9 => h9) rfl hin rfl (by decide +kernel) rfl rfl (Nat.le_of_ble_eq_true rfl) dX1_init_37 (fun H locs hP hD hS => ?_)
  replace hP : va_P D vcl [(h, .inr (1, [.int 0, .int 0, .ref q1, .int 0, .ref q2, .ref q3, .ref q4, .null, .int 0, .int 0])), (q1, .inl (c1, 512, .inl (fun _ => 0))), (q2, .inl (c1, 258, .inl (fun _ => 0))), (q3, .inl (c1, 258, .inl (fun _ => 0))), (q4, .inl (c4, 258, .inl (fun _ => 0)))] H := hP
  replace hD : va_D A [(h, .inr (1, [.int 0, .int 0, .ref q1, .int 0, .ref q2, .ref q3, .ref q4, .null, .int 0, .int 0])), (q1, .inl (c1, 512, .inl (fun _ => 0))), (q2, .inl (c1, 258, .inl (fun _ => 0))), (q3, .inl (c1, 258, .inl (fun _ => 0))), (q4, .inl (c4, 258, .inl (fun _ => 0)))] := hD
  refine lv_aload_n hx hb dX1_init_40 rfl (lv_at hl 0 rfl) ?_
  refine lv_sipush (v := 258) hx hb dX1_init_41 (by decide) ?_
  refine va_newa (atype := .int) (rest := [.ref h]) hx hb (hts (.arrayClass .int) (gm 94 rfl rfl)) (ty := .int) rfl hK hP hD hS hA (n := 258) (N' := 258) (a0_i 258) (by decide) (by decide) (by decide) (by decide) (by decide) dX1_init_44 (fun q5 c5 H hK hP hD hS => ?_)
  have ec5 : c1 = c5 := (ty_one hK 0 2 rfl rfl).symm
  subst ec5
  replace hK : va_K D vcl [(c1, .int), (c4, .boolean)] s := hK.sub [0, 1] rfl
  replace hP : va_P D vcl [(h, .inr (1, [.int 0, .int 0, .ref q1, .int 0, .ref q2, .ref q3, .ref q4, .null, .int 0, .int 0])), (q1, .inl (c1, 512, .inl (fun _ => 0))), (q2, .inl (c1, 258, .inl (fun _ => 0))), (q3, .inl (c1, 258, .inl (fun _ => 0))), (q4, .inl (c4, 258, .inl (fun _ => 0))), (q5, .inl (c1, 258, .inl (fun _ => 0)))] H := hP
  replace hD : va_D A [(h, .inr (1, [.int 0, .int 0, .ref q1, .int 0, .ref q2, .ref q3, .ref q4, .null, .int 0, .int 0])), (q1, .inl (c1, 512, .inl (fun _ => 0))), (q2, .inl (c1, 258, .inl (fun _ => 0))), (q3, .inl (c1, 258, .inl (fun _ => 0))), (q4, .inl (c4, 258, .inl (fun _ => 0))), (q5, .inl (c1, 258, .inl (fun _ => 0)))] := hD
  refine W.widen (k := 5) (n := 1544) (by decide) (by decide) ?_
  refine va_putF (D := D) (ci := 1) (v := .ref q5) (ty := .array .int) (C := RX1) (T := TX1) (N := 10) hx hb hts m_in tyX1 tyX1_ok nmX1 hown hK hP hD hS 0 rfl rfl 7 (by decide) (hts _ m_l_ca) (fun _ h9 => h9) rfl hin rfl (by decide +kernel) rfl rfl (Nat.le_of_ble_eq_true rfl) dX1_init_46 (fun H locs hP hD hS => ?_)
  replace hP : va_P D vcl [(h, .inr (1, [.int 0, .int 0, .ref q1, .int 0, .ref q2, .ref q3, .ref q4, .ref q5, .int 0, .int 0])), (q1, .inl (c1, 512, .inl (fun _ => 0))), (q2, .inl (c1, 258, .inl (fun _ => 0))), (q3, .inl (c1, 258, .inl (fun _ => 0))), (q4, .inl (c4, 258, .inl (fun _ => 0))), (q5, .inl (c1, 258, .inl (fun _ => 0)))] H := hP
  replace hD : va_D A [(h, .inr (1, [.int 0, .int 0, .ref q1, .int 0, .ref q2, .ref q3, .ref q4, .ref q5, .int 0, .int 0])), (q1, .inl (c1, 512, .inl (fun _ => 0))), (q2, .inl (c1, 258, .inl (fun _ => 0))), (q3, .inl (c1, 258, .inl (fun _ => 0))), (q4, .inl (c4, 258, .inl (fun _ => 0))), (q5, .inl (c1, 258, .inl (fun _ => 0)))] := hD
  refine lv_aload_n hx hb dX1_init_49 rfl (lv_at hl 0 rfl) ?_
  refine lv_iconst (v := (-1)) hx hb dX1_init_50 (by decide) ?_
  refine va_put (D := D) (ci := 1) (v := .int (-1)) (ty := .int) (C := RX1) (T := TX1) (N := 10) hx hb hts m_in tyX1 tyX1_ok nmX1 hown hK hP hD hS 0 rfl rfl 9 (by decide) (hts _ m_l_vi) (fun _ h9 => h9) rfl (by decide +kernel) rfl rfl (Nat.le_of_ble_eq_true rfl) dX1_init_51 (fun H locs hP hD hS => ?_)
  replace hP : va_P D vcl [(h, .inr (1, [.int 0, .int 0, .ref q1, .int 0, .ref q2, .ref q3, .ref q4, .ref q5, .int 0, .int (-1)])), (q1, .inl (c1, 512, .inl (fun _ => 0))), (q2, .inl (c1, 258, .inl (fun _ => 0))), (q3, .inl (c1, 258, .inl (fun _ => 0))), (q4, .inl (c4, 258, .inl (fun _ => 0))), (q5, .inl (c1, 258, .inl (fun _ => 0)))] H := hP
  replace hD : va_D A [(h, .inr (1, [.int 0, .int 0, .ref q1, .int 0, .ref q2, .ref q3, .ref q4, .ref q5, .int 0, .int (-1)])), (q1, .inl (c1, 512, .inl (fun _ => 0))), (q2, .inl (c1, 258, .inl (fun _ => 0))), (q3, .inl (c1, 258, .inl (fun _ => 0))), (q4, .inl (c4, 258, .inl (fun _ => 0))), (q5, .inl (c1, 258, .inl (fun _ => 0)))] := hD
  have last : ∀ w : Int32, w = nI n → W p l e { frames := 1, cells := 5, slots := 1544, locals := 30 } s m #[Value.ref h, Value.int lim0] below meth c H locs 5 1544 QQ (F0 m 80 ls [.int w, .ref h]) := by
    intro w hw
    subst hw
    refine va_putF (D := D) (ci := 1) (v := .int (nI n)) (ty := .int) (C := RX1) (T := TX1) (N := 10) hx hb hts m_in tyX1 tyX1_ok nmX1 hown hK hP hD hS 0 rfl rfl 0 (by decide) (hts _ m_l_lim) (fun _ h9 => h9) rfl hin rfl (by decide +kernel) rfl rfl (Nat.le_of_ble_eq_true rfl) dX1_init_80 (fun H locs hP hD hS => ?_)
    replace hP : va_P D vcl [(h, .inr (1, [.int (nI n), .int 0, .ref q1, .int 0, .ref q2, .ref q3, .ref q4, .ref q5, .int 0, .int (-1)])), (q1, .inl (c1, 512, .inl (fun _ => 0))), (q2, .inl (c1, 258, .inl (fun _ => 0))), (q3, .inl (c1, 258, .inl (fun _ => 0))), (q4, .inl (c4, 258, .inl (fun _ => 0))), (q5, .inl (c1, 258, .inl (fun _ => 0)))] H := hP
    replace hD : va_D A [(h, .inr (1, [.int (nI n), .int 0, .ref q1, .int 0, .ref q2, .ref q3, .ref q4, .ref q5, .int 0, .int (-1)])), (q1, .inl (c1, 512, .inl (fun _ => 0))), (q2, .inl (c1, 258, .inl (fun _ => 0))), (q3, .inl (c1, 258, .inl (fun _ => 0))), (q4, .inl (c4, 258, .inl (fun _ => 0))), (q5, .inl (c1, 258, .inl (fun _ => 0)))] := hD
    rw [← hQ]
    exact W.vret hx hb hr (fun t ht hW => ⟨⟨(h, q1, q2, q3, q4, q5, c1, c4, nI n), rfl, ⟨rfl, rfl⟩, by rw [ht]; exact hP, va_K.moved hW.alike hK, hD⟩, hS.F ht⟩) hS.2.2 dX1_init_83 hlocks
  refine lv_aload_n hx hb dX1_init_54 rfl (lv_at hl 0 rfl) ?_
  refine lv_iload_n hx hb dX1_init_55 rfl (lv_at hl 1 rfl) ?_
  refine lv_bipush (v := 16) hx hb dX1_init_56 (by decide) ?_
  refine lv_icmp_ge (tgt := 66) hx hb dX1_init_58 (by decide) (fun hc => ?_) (fun hc => ?_)
  · refine lv_iload_n hx hb dX1_init_66 rfl (lv_at hl 1 rfl) ?_
    refine lv_sipush (v := 512) hx hb dX1_init_67 (by decide) ?_
    refine lv_icmp_le (tgt := 79) hx hb dX1_init_70 (by decide) (fun hc2 => ?_) (fun hc2 => ?_)
    · refine lv_iload_n hx hb dX1_init_79 rfl (lv_at hl 1 rfl) ?_
      exact last _ (by rw [← hlim, ← limV_mod, if_neg (Int32.not_lt.mpr hc), if_neg (Int32.not_lt.mpr hc2)])
    · refine lv_sipush (v := 512) hx hb dX1_init_73 (by decide) ?_
      refine lv_goto (tgt := 80) hx hb dX1_init_76 (by decide) ?_
      exact last _ (by rw [← hlim, ← limV_mod, if_neg (Int32.not_lt.mpr hc), if_pos (Int32.not_le.mp hc2)])
  · refine lv_bipush (v := 16) hx hb dX1_init_61 (by decide) ?_
    refine lv_goto (tgt := 80) hx hb dX1_init_63 (by decide) ?_
    exact last _ (by rw [← hlim, ← limV_mod, if_pos (Int32.not_le.mp hc)])
