set_option maxHeartbeats 4000000 in
set_option maxRecDepth 100000 in
theorem bM_at_2_f {p : Program} {l : Launch} {e : Env} {s : State} {m : MethodId} {args : Array Value} {below : List Frame} {meth : Method} {c : Code} {D : va_G} {ad : MA} {A : Nat → Prop} (C : m_C p s m args meth c cX1_at 3 (some .int)) {post : Int32 → MS → Prop} : ∀ (f : Nat) (σ : MS) (H : Heap) (locs : List Loc) (ls : Array Slot) (v1 : Int32) (v2 : Int32), m_W D ad σ A s H locs → wM_at_2 (m_lim ad) post f σ v1 v2 → lv_has ls 3 [(0, .ref (m_h ad)), (1, .int v1), (2, .int v2)] → W p l e { frames := 0, cells := 0, slots := 0, locals := 0 } s m args below meth c H locs 0 0 (m_Qi below D ad A args s post) (F0 m 2 ls []) := by
  intro f
  induction f with
  | zero => intro σ H locs ls v1 v2 Wd hf hl; exact False.elim hf
  | succ f ih =>
    intro σ H locs ls v1 v2 Wd hf hl
    replace hf : wM_at_2_s (m_lim ad) post (wM_at_2 (m_lim ad) post f) σ v1 v2 := hf
    refine lv_iload_n C.1 C.2.1 dX1_at_2 rfl (lv_at hl 2 rfl) ?_
    refine lv_aload_n C.1 C.2.1 dX1_at_3 rfl (lv_at hl 0 rfl) ?_
    refine m_get_ch C Wd dX1_at_4 ?_
    refine lv_icmp_ge (tgt := 28) C.1 C.2.1 dX1_at_7 (by decide) (fun hc => ?_) (fun hc => ?_)
    · replace hf := hf.1 hc
      refine lv_iconst (v := (-1)) C.1 C.2.1 dX1_at_28 (by decide) ?_
      exact m_iret C Wd hf dX1_at_29
    · replace hf := hf.2 hc
      refine lv_aload_n C.1 C.2.1 dX1_at_10 rfl (lv_at hl 0 rfl) ?_
      refine m_get_fi C Wd dX1_at_11 ?_
      refine lv_iload_n C.1 C.2.1 dX1_at_14 rfl (lv_at hl 2 rfl) ?_
      refine m_ald_fi C Wd hf.1 dX1_at_15 ?_
      replace hf := hf.2
      refine lv_iload_n C.1 C.2.1 dX1_at_16 rfl (lv_at hl 1 rfl) ?_
      refine lv_icmp_ne (tgt := 22) C.1 C.2.1 dX1_at_17 (by decide) (fun hc => ?_) (fun hc => ?_)
      · replace hf := hf.1 hc
        refine lv_iinc (v := v2 + 1) (lv' := [(2, .int (v2 + 1)), (0, .ref (m_h ad)), (1, .int v1)]) C.1 C.2.1 dX1_at_22 hl (k := 2) rfl rfl (by decide) rfl (fun ls hl => ?_)
        refine lv_goto (tgt := 2) C.1 C.2.1 dX1_at_25 (by decide) ?_
        exact ih _ _ _ _ _ _  Wd hf (lv_sub hl [1, 2, 0] rfl)
      · replace hf := hf.2 hc
        refine lv_iload_n C.1 C.2.1 dX1_at_20 rfl (lv_at hl 2 rfl) ?_
        exact m_iret C Wd hf dX1_at_21
theorem bM_at_2 {p : Program} {l : Launch} {e : Env} {s : State} {m : MethodId} {args : Array Value} {below : List Frame} {meth : Method} {c : Code} {D : va_G} {ad : MA} {A : Nat → Prop} (C : m_C p s m args meth c cX1_at 3 (some .int)) {post : Int32 → MS → Prop} {σ : MS} {H : Heap} {locs : List Loc} {ls : Array Slot} {v1 : Int32} {v2 : Int32} (Wd : m_W D ad σ A s H locs) (hf : ∃ f : Nat, wM_at_2 (m_lim ad) post f σ v1 v2) (hl : lv_has ls 3 [(0, .ref (m_h ad)), (1, .int v1), (2, .int v2)]) : W p l e { frames := 0, cells := 0, slots := 0, locals := 0 } s m args below meth c H locs 0 0 (m_Qi below D ad A args s post) (F0 m 2 ls []) := by
  obtain ⟨f, hf⟩ := hf
  exact bM_at_2_f C f σ H locs ls v1 v2 Wd hf hl
set_option maxHeartbeats 4000000 in
set_option maxRecDepth 100000 in
theorem cM_at (l : Launch) (D : va_G) (ad : MA) (v1 : Int32) : m_Mi l D yX1_at cX1_at 3 (some .int) { frames := 0, cells := 0, slots := 0, locals := 0 } ad [.ref (m_h ad), .int v1] (fun σ post => wM_at (m_lim ad) σ v1 post) := by
  refine m_ofi ⟨by decide, rfl, Nat.le_of_ble_eq_true rfl⟩ (fun {p e s m args below meth c σ A post ls} C Wd hf hl => ?_)
  replace hl : lv_has ls 3 [(0, .ref (m_h ad)), (1, .int v1)] := hl
  refine lv_iconst (v := 0) C.1 C.2.1 dX1_at_0 (by decide) ?_
  refine lv_istore_n (lv' := [(2, .int 0), (0, .ref (m_h ad)), (1, .int v1)]) C.1 C.2.1 dX1_at_1 rfl hl (by decide) rfl (fun ls hl => ?_)
  exact bM_at_2 C Wd hf (lv_sub hl [1, 2, 0] rfl)
set_option maxHeartbeats 4000000 in
set_option maxRecDepth 100000 in
theorem bM_holder_16 {p : Program} {l : Launch} {e : Env} {s : State} {m : MethodId} {args : Array Value} {below : List Frame} {meth : Method} {c : Code} {D : va_G} {ad : MA} {A : Nat → Prop} (C : m_C p s m args meth c cX1_holder 3 (some .int)) {post : Int32 → MS → Prop} {σ : MS} {H : Heap} {locs : List Loc} {ls : Array Slot} {k0 : Int32} (Wd : m_W D ad σ A s H locs) (hf : wM_holder_16 (m_lim ad) σ k0 post) (hl : lv_has ls 3 [(0, .ref (m_h ad))]) : W p l e { frames := 1, cells := 0, slots := 0, locals := 22 } s m args below meth c H locs 0 0 (m_Qi below D ad A args s post) (F0 m 16 ls [.int k0]) := by
  refine lv_istore_n (lv' := [(2, .int k0), (0, .ref (m_h ad))]) C.1 C.2.1 dX1_holder_16 rfl hl (by decide) rfl (fun ls hl => ?_)
  refine lv_iload_n C.1 C.2.1 dX1_holder_17 rfl (lv_at hl 0 rfl) ?_
  refine lv_if_lt (tgt := 34) C.1 C.2.1 dX1_holder_18 (by decide) (fun hc => ?_) (fun hc => ?_)
  · replace hf := hf.1 hc
    refine lv_iconst (v := (-1)) C.1 C.2.1 dX1_holder_34 (by decide) ?_
    exact m_iret C Wd hf dX1_holder_35
  · replace hf := hf.2 hc
    refine lv_aload_n C.1 C.2.1 dX1_holder_21 rfl (lv_at hl 1 rfl) ?_
    refine m_get_us C Wd dX1_holder_22 ?_
    refine lv_iload_n C.1 C.2.1 dX1_holder_25 rfl (lv_at hl 0 rfl) ?_
    refine m_ald_us C Wd hf.1 dX1_holder_26 ?_
    replace hf := hf.2
    refine lv_if_eq (tgt := 34) C.1 C.2.1 dX1_holder_27 (by decide) (fun hc => ?_) (fun hc => ?_)
    · replace hf := hf.1 hc
      refine lv_iconst (v := (-1)) C.1 C.2.1 dX1_holder_34 (by decide) ?_
      exact m_iret C Wd hf dX1_holder_35
    · replace hf := hf.2 hc
      refine lv_iload_n C.1 C.2.1 dX1_holder_30 rfl (lv_at hl 0 rfl) ?_
      refine lv_goto (tgt := 35) C.1 C.2.1 dX1_holder_31 (by decide) ?_
      exact m_iret C Wd hf dX1_holder_35
set_option maxHeartbeats 4000000 in
set_option maxRecDepth 100000 in
theorem cM_holder (l : Launch) (D : va_G) (ad : MA) (v1 : Int32) : m_Mi l D yX1_holder cX1_holder 3 (some .int) { frames := 1, cells := 0, slots := 0, locals := 22 } ad [.ref (m_h ad), .int v1] (fun σ post => wM_holder (m_lim ad) σ v1 post) := by
  refine m_ofi ⟨by decide, rfl, Nat.le_of_ble_eq_true rfl⟩ (fun {p e s m args below meth c σ A post ls} C Wd hf hl => ?_)
  replace hl : lv_has ls 3 [(0, .ref (m_h ad)), (1, .int v1)] := hl
  refine lv_iload_n C.1 C.2.1 dX1_holder_0 rfl (lv_at hl 1 rfl) ?_
  refine lv_iconst (v := 1) C.1 C.2.1 dX1_holder_1 (by decide) ?_
  refine lv_icmp_ge (tgt := 9) C.1 C.2.1 dX1_holder_2 (by decide) (fun hc => ?_) (fun hc => ?_)
  · replace hf := hf.1 hc
    refine lv_aload_n C.1 C.2.1 dX1_holder_9 rfl (lv_at hl 0 rfl) ?_
    refine lv_iload_n C.1 C.2.1 dX1_holder_10 rfl (lv_at hl 1 rfl) ?_
    refine lv_iconst (v := 1) C.1 C.2.1 dX1_holder_11 (by decide) ?_
    refine lv_isub C.1 C.2.1 dX1_holder_12 ?_
    refine m_calliv (As := [.int (v1 - 1)]) (rest := []) C Wd (cM_at l D ad (v1 - 1)) sM_at (by decide) rfl hl.1 rfl (Nat.le_of_ble_eq_true rfl) (by decide) dX1_holder_13 hf (fun r13 σ13 H locs hf Wd => ?_)
    exact bM_holder_16 C Wd hf (lv_sub hl [0] rfl)
  · replace hf := hf.2 hc
    refine lv_iconst (v := (-1)) C.1 C.2.1 dX1_holder_5 (by decide) ?_
    refine lv_goto (tgt := 16) C.1 C.2.1 dX1_holder_6 (by decide) ?_
    exact bM_holder_16 C Wd hf (lv_sub hl [0] rfl)
set_option maxHeartbeats 4000000 in
set_option maxRecDepth 100000 in
theorem cM_stateOf (l : Launch) (D : va_G) (ad : MA) (v1 : Int32) : m_Mi l D yX1_stateOf cX1_stateOf 2 (some .int) { frames := 0, cells := 0, slots := 0, locals := 0 } ad [.ref (m_h ad), .int v1] (fun σ post => wM_stateOf (m_lim ad) σ v1 post) := by
  refine m_ofi ⟨by decide, rfl, Nat.le_of_ble_eq_true rfl⟩ (fun {p e s m args below meth c σ A post ls} C Wd hf hl => ?_)
  replace hl : lv_has ls 2 [(0, .ref (m_h ad)), (1, .int v1)] := hl
  refine lv_aload_n C.1 C.2.1 dX1_stateOf_0 rfl (lv_at hl 0 rfl) ?_
  refine m_get_us C Wd dX1_stateOf_1 ?_
  refine lv_iload_n C.1 C.2.1 dX1_stateOf_4 rfl (lv_at hl 1 rfl) ?_
  refine m_ald_us C Wd hf.1 dX1_stateOf_5 ?_
  replace hf := hf.2
  refine lv_if_eq (tgt := 13) C.1 C.2.1 dX1_stateOf_6 (by decide) (fun hc => ?_) (fun hc => ?_)
  · replace hf := hf.1 hc
    refine lv_aload_n C.1 C.2.1 dX1_stateOf_13 rfl (lv_at hl 0 rfl) ?_
    refine m_get_fi C Wd dX1_stateOf_14 ?_
    refine lv_iload_n C.1 C.2.1 dX1_stateOf_17 rfl (lv_at hl 1 rfl) ?_
    refine m_ald_fi C Wd hf.1 dX1_stateOf_18 ?_
    replace hf := hf.2
    refine lv_aload_n C.1 C.2.1 dX1_stateOf_19 rfl (lv_at hl 0 rfl) ?_
    refine m_get_sz C Wd dX1_stateOf_20 ?_
    refine lv_iload_n C.1 C.2.1 dX1_stateOf_23 rfl (lv_at hl 1 rfl) ?_
    refine m_ald_sz C Wd hf.1 dX1_stateOf_24 ?_
    replace hf := hf.2
    refine lv_iadd C.1 C.2.1 dX1_stateOf_25 ?_
    refine lv_aload_n C.1 C.2.1 dX1_stateOf_26 rfl (lv_at hl 0 rfl) ?_
    refine m_get_en C Wd dX1_stateOf_27 ?_
    refine lv_icmp_ne (tgt := 37) C.1 C.2.1 dX1_stateOf_30 (by decide) (fun hc => ?_) (fun hc => ?_)
    · replace hf := hf.1 hc
      refine lv_aload_n C.1 C.2.1 dX1_stateOf_37 rfl (lv_at hl 0 rfl) ?_
      refine m_get_fi C Wd dX1_stateOf_38 ?_
      refine lv_iload_n C.1 C.2.1 dX1_stateOf_41 rfl (lv_at hl 1 rfl) ?_
      refine m_ald_fi C Wd hf.1 dX1_stateOf_42 ?_
      replace hf := hf.2
      refine lv_aload_n C.1 C.2.1 dX1_stateOf_43 rfl (lv_at hl 0 rfl) ?_
      refine m_get_vi C Wd dX1_stateOf_44 ?_
      refine lv_icmp_ne (tgt := 54) C.1 C.2.1 dX1_stateOf_47 (by decide) (fun hc => ?_) (fun hc => ?_)
      · replace hf := hf.1 hc
        refine lv_aload_n C.1 C.2.1 dX1_stateOf_54 rfl (lv_at hl 0 rfl) ?_
        refine m_get_sz C Wd dX1_stateOf_55 ?_
        refine lv_iload_n C.1 C.2.1 dX1_stateOf_58 rfl (lv_at hl 1 rfl) ?_
        refine m_ald_sz C Wd hf.1 dX1_stateOf_59 ?_
        replace hf := hf.2
        refine lv_bipush (v := 16) C.1 C.2.1 dX1_stateOf_60 (by decide) ?_
        refine lv_icmp_ge (tgt := 69) C.1 C.2.1 dX1_stateOf_62 (by decide) (fun hc => ?_) (fun hc => ?_)
        · replace hf := hf.1 hc
          refine lv_iconst (v := 2) C.1 C.2.1 dX1_stateOf_69 (by decide) ?_
          exact m_iret C Wd hf dX1_stateOf_70
        · replace hf := hf.2 hc
          refine lv_iconst (v := 1) C.1 C.2.1 dX1_stateOf_65 (by decide) ?_
          refine lv_goto (tgt := 70) C.1 C.2.1 dX1_stateOf_66 (by decide) ?_
          exact m_iret C Wd hf dX1_stateOf_70
      · replace hf := hf.2 hc
        refine lv_iconst (v := 3) C.1 C.2.1 dX1_stateOf_50 (by decide) ?_
        refine lv_goto (tgt := 70) C.1 C.2.1 dX1_stateOf_51 (by decide) ?_
        exact m_iret C Wd hf dX1_stateOf_70
    · replace hf := hf.2 hc
      refine lv_iconst (v := 4) C.1 C.2.1 dX1_stateOf_33 (by decide) ?_
      refine lv_goto (tgt := 70) C.1 C.2.1 dX1_stateOf_34 (by decide) ?_
      exact m_iret C Wd hf dX1_stateOf_70
  · replace hf := hf.2 hc
    refine lv_iconst (v := 0) C.1 C.2.1 dX1_stateOf_9 (by decide) ?_
    refine lv_goto (tgt := 70) C.1 C.2.1 dX1_stateOf_10 (by decide) ?_
    exact m_iret C Wd hf dX1_stateOf_70
set_option maxHeartbeats 4000000 in
set_option maxRecDepth 100000 in
theorem cM_top (l : Launch) (D : va_G) (ad : MA) : m_Mi l D yX1_top cX1_top 1 (some .int) { frames := 0, cells := 0, slots := 0, locals := 0 } ad [.ref (m_h ad)] (fun σ post => wM_top (m_lim ad) σ  post) := by
  refine m_ofi ⟨by decide, rfl, Nat.le_of_ble_eq_true rfl⟩ (fun {p e s m args below meth c σ A post ls} C Wd hf hl => ?_)
  replace hl : lv_has ls 1 [(0, .ref (m_h ad))] := hl
  refine lv_aload_n C.1 C.2.1 dX1_top_0 rfl (lv_at hl 0 rfl) ?_
  refine m_get_ch C Wd dX1_top_1 ?_
  refine lv_if_le (tgt := 30) C.1 C.2.1 dX1_top_4 (by decide) (fun hc => ?_) (fun hc => ?_)
  · replace hf := hf.1 hc
    refine lv_iconst (v := (-1)) C.1 C.2.1 dX1_top_30 (by decide) ?_
    exact m_iret C Wd hf dX1_top_31
  · replace hf := hf.2 hc
    refine lv_aload_n C.1 C.2.1 dX1_top_7 rfl (lv_at hl 0 rfl) ?_
    refine m_get_us C Wd dX1_top_8 ?_
    refine lv_aload_n C.1 C.2.1 dX1_top_11 rfl (lv_at hl 0 rfl) ?_
    refine m_get_ch C Wd dX1_top_12 ?_
    refine lv_iconst (v := 1) C.1 C.2.1 dX1_top_15 (by decide) ?_
    refine lv_isub C.1 C.2.1 dX1_top_16 ?_
    refine m_ald_us C Wd hf.1 dX1_top_17 ?_
    replace hf := hf.2
    refine lv_if_ne (tgt := 30) C.1 C.2.1 dX1_top_18 (by decide) (fun hc => ?_) (fun hc => ?_)
    · replace hf := hf.1 hc
      refine lv_iconst (v := (-1)) C.1 C.2.1 dX1_top_30 (by decide) ?_
      exact m_iret C Wd hf dX1_top_31
    · replace hf := hf.2 hc
      refine lv_aload_n C.1 C.2.1 dX1_top_21 rfl (lv_at hl 0 rfl) ?_
      refine m_get_ch C Wd dX1_top_22 ?_
      refine lv_iconst (v := 1) C.1 C.2.1 dX1_top_25 (by decide) ?_
      refine lv_isub C.1 C.2.1 dX1_top_26 ?_
      refine lv_goto (tgt := 31) C.1 C.2.1 dX1_top_27 (by decide) ?_
      exact m_iret C Wd hf dX1_top_31
set_option maxHeartbeats 4000000 in
set_option maxRecDepth 100000 in
theorem bM_part_74 {p : Program} {l : Launch} {e : Env} {s : State} {m : MethodId} {args : Array Value} {below : List Frame} {meth : Method} {c : Code} {D : va_G} {ad : MA} {A : Nat → Prop} (C : m_C p s m args meth c cX1_part 4 none) {post : MS → Prop} {σ : MS} {H : Heap} {locs : List Loc} {ls : Array Slot} {v1 : Int32} {v2 : Int32} (Wd : m_W D ad σ A s H locs) (hf : wM_part_74 (m_lim ad) σ v1 v2 post) (hl : lv_has ls 4 [(0, .ref (m_h ad)), (1, .int v1), (2, .int v2)]) : W p l e { frames := 0, cells := 0, slots := 0, locals := 0 } s m args below meth c H locs 0 0 (m_Qv below D ad A args s post) (F0 m 74 ls []) := by
  refine lv_aload_n C.1 C.2.1 dX1_part_74 rfl (lv_at hl 0 rfl) ?_
  refine lv_dup C.1 C.2.1 dX1_part_75 rfl ?_
  refine m_get_ch C Wd dX1_part_76 ?_
  refine lv_iconst (v := 1) C.1 C.2.1 dX1_part_79 (by decide) ?_
  refine lv_iadd C.1 C.2.1 dX1_part_80 ?_
  refine m_put_ch C Wd dX1_part_81 (fun H locs Wd => ?_)
  refine lv_aload_n C.1 C.2.1 dX1_part_84 rfl (lv_at hl 0 rfl) ?_
  refine m_get_fi C Wd dX1_part_85 ?_
  refine lv_iload_n C.1 C.2.1 dX1_part_88 rfl (lv_at hl 1 rfl) ?_
  refine lv_iconst (v := 1) C.1 C.2.1 dX1_part_89 (by decide) ?_
  refine lv_iadd C.1 C.2.1 dX1_part_90 ?_
  refine lv_aload_n C.1 C.2.1 dX1_part_91 rfl (lv_at hl 0 rfl) ?_
  refine m_get_fi C Wd dX1_part_92 ?_
  refine lv_iload_n C.1 C.2.1 dX1_part_95 rfl (lv_at hl 1 rfl) ?_
  refine m_ald_fi C Wd hf.1 dX1_part_96 ?_
  replace hf := hf.2
  refine lv_iload_n C.1 C.2.1 dX1_part_97 rfl (lv_at hl 2 rfl) ?_
  refine lv_iadd C.1 C.2.1 dX1_part_98 ?_
  refine m_ast_fi C Wd hf.1 dX1_part_99 (fun H locs Wd => ?_)
  replace hf := hf.2
  refine lv_aload_n C.1 C.2.1 dX1_part_100 rfl (lv_at hl 0 rfl) ?_
  refine m_get_sz C Wd dX1_part_101 ?_
  refine lv_iload_n C.1 C.2.1 dX1_part_104 rfl (lv_at hl 1 rfl) ?_
  refine lv_iconst (v := 1) C.1 C.2.1 dX1_part_105 (by decide) ?_
  refine lv_iadd C.1 C.2.1 dX1_part_106 ?_
  refine lv_aload_n C.1 C.2.1 dX1_part_107 rfl (lv_at hl 0 rfl) ?_
  refine m_get_sz C Wd dX1_part_108 ?_
  refine lv_iload_n C.1 C.2.1 dX1_part_111 rfl (lv_at hl 1 rfl) ?_
  refine m_ald_sz C Wd hf.1 dX1_part_112 ?_
  replace hf := hf.2
  refine lv_iload_n C.1 C.2.1 dX1_part_113 rfl (lv_at hl 2 rfl) ?_
  refine lv_isub C.1 C.2.1 dX1_part_114 ?_
  refine m_ast_sz C Wd hf.1 dX1_part_115 (fun H locs Wd => ?_)
  replace hf := hf.2
  refine lv_aload_n C.1 C.2.1 dX1_part_116 rfl (lv_at hl 0 rfl) ?_
  refine m_get_us C Wd dX1_part_117 ?_
  refine lv_iload_n C.1 C.2.1 dX1_part_120 rfl (lv_at hl 1 rfl) ?_
  refine lv_iconst (v := 1) C.1 C.2.1 dX1_part_121 (by decide) ?_
  refine lv_iadd C.1 C.2.1 dX1_part_122 ?_
  refine lv_iconst (v := 0) C.1 C.2.1 dX1_part_123 (by decide) ?_
  refine m_ast_us C Wd hf.1 rfl dX1_part_124 (fun H locs Wd => ?_)
  replace hf := hf.2
  refine lv_aload_n C.1 C.2.1 dX1_part_125 rfl (lv_at hl 0 rfl) ?_
  refine m_get_ca C Wd dX1_part_126 ?_
  refine lv_iload_n C.1 C.2.1 dX1_part_129 rfl (lv_at hl 1 rfl) ?_
  refine lv_iconst (v := 1) C.1 C.2.1 dX1_part_130 (by decide) ?_
  refine lv_iadd C.1 C.2.1 dX1_part_131 ?_
  refine lv_iconst (v := 0) C.1 C.2.1 dX1_part_132 (by decide) ?_
  refine m_ast_ca C Wd hf.1 dX1_part_133 (fun H locs Wd => ?_)
  replace hf := hf.2
  refine lv_aload_n C.1 C.2.1 dX1_part_134 rfl (lv_at hl 0 rfl) ?_
  refine m_get_sz C Wd dX1_part_135 ?_
  refine lv_iload_n C.1 C.2.1 dX1_part_138 rfl (lv_at hl 1 rfl) ?_
  refine lv_iload_n C.1 C.2.1 dX1_part_139 rfl (lv_at hl 2 rfl) ?_
  refine m_ast_sz C Wd hf.1 dX1_part_140 (fun H locs Wd => ?_)
  replace hf := hf.2
  exact m_vret C Wd hf dX1_part_141
set_option maxHeartbeats 4000000 in
set_option maxRecDepth 100000 in
theorem bM_part_5_f {p : Program} {l : Launch} {e : Env} {s : State} {m : MethodId} {args : Array Value} {below : List Frame} {meth : Method} {c : Code} {D : va_G} {ad : MA} {A : Nat → Prop} (C : m_C p s m args meth c cX1_part 4 none) {post : MS → Prop} : ∀ (f : Nat) (σ : MS) (H : Heap) (locs : List Loc) (ls : Array Slot) (v1 : Int32) (v2 : Int32) (v3 : Int32), m_W D ad σ A s H locs → wM_part_5 (m_lim ad) post f σ v1 v2 v3 → lv_has ls 4 [(0, .ref (m_h ad)), (1, .int v1), (2, .int v2), (3, .int v3)] → W p l e { frames := 0, cells := 0, slots := 0, locals := 0 } s m args below meth c H locs 0 0 (m_Qv below D ad A args s post) (F0 m 5 ls []) := by
  intro f
  induction f with
  | zero => intro σ H locs ls v1 v2 v3 Wd hf hl; exact False.elim hf
  | succ f ih =>
    intro σ H locs ls v1 v2 v3 Wd hf hl
    replace hf : wM_part_5_s (m_lim ad) post (wM_part_5 (m_lim ad) post f) σ v1 v2 v3 := hf
    refine lv_iload_n C.1 C.2.1 dX1_part_5 rfl (lv_at hl 3 rfl) ?_
    refine lv_iload_n C.1 C.2.1 dX1_part_6 rfl (lv_at hl 1 rfl) ?_
    refine lv_iconst (v := 1) C.1 C.2.1 dX1_part_7 (by decide) ?_
    refine lv_iadd C.1 C.2.1 dX1_part_8 ?_
    refine lv_icmp_le (tgt := 74) C.1 C.2.1 dX1_part_9 (by decide) (fun hc => ?_) (fun hc => ?_)
    · replace hf := hf.1 hc
      exact bM_part_74 C Wd hf (lv_sub hl [0, 1, 2] rfl)
    · replace hf := hf.2 hc
      refine lv_aload_n C.1 C.2.1 dX1_part_12 rfl (lv_at hl 0 rfl) ?_
      refine m_get_fi C Wd dX1_part_13 ?_
      refine lv_iload_n C.1 C.2.1 dX1_part_16 rfl (lv_at hl 3 rfl) ?_
      refine lv_aload_n C.1 C.2.1 dX1_part_17 rfl (lv_at hl 0 rfl) ?_
      refine m_get_fi C Wd dX1_part_18 ?_
      refine lv_iload_n C.1 C.2.1 dX1_part_21 rfl (lv_at hl 3 rfl) ?_
      refine lv_iconst (v := 1) C.1 C.2.1 dX1_part_22 (by decide) ?_
      refine lv_isub C.1 C.2.1 dX1_part_23 ?_
      refine m_ald_fi C Wd hf.1 dX1_part_24 ?_
      replace hf := hf.2
      refine m_ast_fi C Wd hf.1 dX1_part_25 (fun H locs Wd => ?_)
      replace hf := hf.2
      refine lv_aload_n C.1 C.2.1 dX1_part_26 rfl (lv_at hl 0 rfl) ?_
      refine m_get_sz C Wd dX1_part_27 ?_
      refine lv_iload_n C.1 C.2.1 dX1_part_30 rfl (lv_at hl 3 rfl) ?_
      refine lv_aload_n C.1 C.2.1 dX1_part_31 rfl (lv_at hl 0 rfl) ?_
      refine m_get_sz C Wd dX1_part_32 ?_
      refine lv_iload_n C.1 C.2.1 dX1_part_35 rfl (lv_at hl 3 rfl) ?_
      refine lv_iconst (v := 1) C.1 C.2.1 dX1_part_36 (by decide) ?_
      refine lv_isub C.1 C.2.1 dX1_part_37 ?_
      refine m_ald_sz C Wd hf.1 dX1_part_38 ?_
      replace hf := hf.2
      refine m_ast_sz C Wd hf.1 dX1_part_39 (fun H locs Wd => ?_)
      replace hf := hf.2
      refine lv_aload_n C.1 C.2.1 dX1_part_40 rfl (lv_at hl 0 rfl) ?_
      refine m_get_us C Wd dX1_part_41 ?_
      refine lv_iload_n C.1 C.2.1 dX1_part_44 rfl (lv_at hl 3 rfl) ?_
      refine lv_aload_n C.1 C.2.1 dX1_part_45 rfl (lv_at hl 0 rfl) ?_
      refine m_get_us C Wd dX1_part_46 ?_
      refine lv_iload_n C.1 C.2.1 dX1_part_49 rfl (lv_at hl 3 rfl) ?_
      refine lv_iconst (v := 1) C.1 C.2.1 dX1_part_50 (by decide) ?_
      refine lv_isub C.1 C.2.1 dX1_part_51 ?_
      refine m_ald_us C Wd hf.1 dX1_part_52 ?_
      replace hf := hf.2
      refine m_ast_us C Wd hf.1 rfl dX1_part_53 (fun H locs Wd => ?_)
      replace hf := hf.2
      refine lv_aload_n C.1 C.2.1 dX1_part_54 rfl (lv_at hl 0 rfl) ?_
      refine m_get_ca C Wd dX1_part_55 ?_
      refine lv_iload_n C.1 C.2.1 dX1_part_58 rfl (lv_at hl 3 rfl) ?_
      refine lv_aload_n C.1 C.2.1 dX1_part_59 rfl (lv_at hl 0 rfl) ?_
      refine m_get_ca C Wd dX1_part_60 ?_
      refine lv_iload_n C.1 C.2.1 dX1_part_63 rfl (lv_at hl 3 rfl) ?_
      refine lv_iconst (v := 1) C.1 C.2.1 dX1_part_64 (by decide) ?_
      refine lv_isub C.1 C.2.1 dX1_part_65 ?_
      refine m_ald_ca C Wd hf.1 dX1_part_66 ?_
      replace hf := hf.2
      refine m_ast_ca C Wd hf.1 dX1_part_67 (fun H locs Wd => ?_)
      replace hf := hf.2
      refine lv_iinc (v := v3 + (-1)) (lv' := [(3, .int (v3 + (-1))), (0, .ref (m_h ad)), (1, .int v1), (2, .int v2)]) C.1 C.2.1 dX1_part_68 hl (k := 3) rfl rfl (by decide) rfl (fun ls hl => ?_)
      refine lv_goto (tgt := 5) C.1 C.2.1 dX1_part_71 (by decide) ?_
      exact ih _ _ _ _ _ _ _  Wd hf (lv_sub hl [1, 2, 3, 0] rfl)
theorem bM_part_5 {p : Program} {l : Launch} {e : Env} {s : State} {m : MethodId} {args : Array Value} {below : List Frame} {meth : Method} {c : Code} {D : va_G} {ad : MA} {A : Nat → Prop} (C : m_C p s m args meth c cX1_part 4 none) {post : MS → Prop} {σ : MS} {H : Heap} {locs : List Loc} {ls : Array Slot} {v1 : Int32} {v2 : Int32} {v3 : Int32} (Wd : m_W D ad σ A s H locs) (hf : ∃ f : Nat, wM_part_5 (m_lim ad) post f σ v1 v2 v3) (hl : lv_has ls 4 [(0, .ref (m_h ad)), (1, .int v1), (2, .int v2), (3, .int v3)]) : W p l e { frames := 0, cells := 0, slots := 0, locals := 0 } s m args below meth c H locs 0 0 (m_Qv below D ad A args s post) (F0 m 5 ls []) := by
  obtain ⟨f, hf⟩ := hf
  exact bM_part_5_f C f σ H locs ls v1 v2 v3 Wd hf hl
set_option maxHeartbeats 4000000 in
set_option maxRecDepth 100000 in
theorem cM_part (l : Launch) (D : va_G) (ad : MA) (v1 : Int32) (v2 : Int32) : m_Mv l D yX1_part cX1_part 4 none { frames := 0, cells := 0, slots := 0, locals := 0 } ad [.ref (m_h ad), .int v1, .int v2] (fun σ post => wM_part (m_lim ad) σ v1 v2 post) := by
  refine m_ofv ⟨by decide, rfl, Nat.le_of_ble_eq_true rfl⟩ (fun {p e s m args below meth c σ A post ls} C Wd hf hl => ?_)
  replace hl : lv_has ls 4 [(0, .ref (m_h ad)), (1, .int v1), (2, .int v2)] := hl
  refine lv_aload_n C.1 C.2.1 dX1_part_0 rfl (lv_at hl 0 rfl) ?_
  refine m_get_ch C Wd dX1_part_1 ?_
  refine lv_istore_n (lv' := [(3, .int (m_ch σ)), (0, .ref (m_h ad)), (1, .int v1), (2, .int v2)]) C.1 C.2.1 dX1_part_4 rfl hl (by decide) rfl (fun ls hl => ?_)
  exact bM_part_5 C Wd hf (lv_sub hl [1, 2, 3, 0] rfl)
