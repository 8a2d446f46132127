set_option maxHeartbeats 4000000 in
set_option maxRecDepth 100000 in
theorem bM_fromVictim_19 {p : Program} {l : Launch} {e : Env} {s : State} {m : MethodId} {args : Array Value} {below : List Frame} {meth : Method} {c : Code} {D : va_G} {ad : MA} {A : Nat → Prop} (C : m_C p s m args meth c cX1_fromVictim 3 (some .int)) {post : Int32 → MS → Prop} {σ : MS} {H : Heap} {locs : List Loc} {ls : Array Slot} {v1 : Int32} {k0 : Int32} (Wd : m_W D ad σ A s H locs) (hf : wM_fromVictim_19 (m_lim ad) σ v1 k0 post) (hl : lv_has ls 3 [(0, .ref (m_h ad)), (1, .int v1)]) : W p l e { frames := 2, cells := 0, slots := 0, locals := 45 } s m args below meth c H locs 0 0 (m_Qi below D ad A args s post) (F0 m 19 ls [.int k0]) := by
  refine lv_istore_n (lv' := [(2, .int k0), (0, .ref (m_h ad)), (1, .int v1)]) C.1 C.2.1 dX1_fromVictim_19 rfl hl (by decide) rfl (fun ls hl => ?_)
  refine lv_iload_n C.1 C.2.1 dX1_fromVictim_20 rfl (lv_at hl 0 rfl) ?_
  refine lv_if_lt (tgt := 34) C.1 C.2.1 dX1_fromVictim_21 (by decide) (fun hc => ?_) (fun hc => ?_)
  · replace hf := hf.1 hc
    refine lv_iconst (v := (-1)) C.1 C.2.1 dX1_fromVictim_34 (by decide) ?_
    exact m_iret C Wd hf dX1_fromVictim_35
  · replace hf := hf.2 hc
    refine lv_aload_n C.1 C.2.1 dX1_fromVictim_24 rfl (lv_at hl 1 rfl) ?_
    refine m_get_sz C Wd dX1_fromVictim_25 ?_
    refine lv_iload_n C.1 C.2.1 dX1_fromVictim_28 rfl (lv_at hl 0 rfl) ?_
    refine m_ald_sz C Wd hf.1 dX1_fromVictim_29 ?_
    replace hf := hf.2
    refine lv_iload_n C.1 C.2.1 dX1_fromVictim_30 rfl (lv_at hl 2 rfl) ?_
    refine lv_icmp_ge (tgt := 36) C.1 C.2.1 dX1_fromVictim_31 (by decide) (fun hc => ?_) (fun hc => ?_)
    · replace hf := hf.1 hc
      refine lv_aload_n C.1 C.2.1 dX1_fromVictim_36 rfl (lv_at hl 1 rfl) ?_
      refine lv_aload_n C.1 C.2.1 dX1_fromVictim_37 rfl (lv_at hl 1 rfl) ?_
      refine lv_iload_n C.1 C.2.1 dX1_fromVictim_38 rfl (lv_at hl 0 rfl) ?_
      refine lv_iload_n C.1 C.2.1 dX1_fromVictim_39 rfl (lv_at hl 2 rfl) ?_
      refine m_calliv (As := [.int k0, .int v1]) (rest := [.ref (m_h ad)]) C Wd (cM_cut l D ad k0 v1) sM_cut (by decide) rfl hl.1 rfl (Nat.le_of_ble_eq_true rfl) (by decide) dX1_fromVictim_40 hf (fun r40 σ40 H locs hf Wd => ?_)
      refine lv_if_eq (tgt := 57) C.1 C.2.1 dX1_fromVictim_43 (by decide) (fun hc => ?_) (fun hc => ?_)
      · replace hf := hf.1 hc
        refine lv_iconst (v := (-1)) C.1 C.2.1 dX1_fromVictim_57 (by decide) ?_
        refine m_put_vi C Wd dX1_fromVictim_58 (fun H locs Wd => ?_)
        refine lv_iload_n C.1 C.2.1 dX1_fromVictim_61 rfl (lv_at hl 0 rfl) ?_
        exact m_iret C Wd hf dX1_fromVictim_62
      · replace hf := hf.2 hc
        refine lv_aload_n C.1 C.2.1 dX1_fromVictim_46 rfl (lv_at hl 1 rfl) ?_
        refine m_get_fi C Wd dX1_fromVictim_47 ?_
        refine lv_iload_n C.1 C.2.1 dX1_fromVictim_50 rfl (lv_at hl 0 rfl) ?_
        refine lv_iconst (v := 1) C.1 C.2.1 dX1_fromVictim_51 (by decide) ?_
        refine lv_iadd C.1 C.2.1 dX1_fromVictim_52 ?_
        refine m_ald_fi C Wd hf.1 dX1_fromVictim_53 ?_
        replace hf := hf.2
        refine lv_goto (tgt := 58) C.1 C.2.1 dX1_fromVictim_54 (by decide) ?_
        refine m_put_vi C Wd dX1_fromVictim_58 (fun H locs Wd => ?_)
        refine lv_iload_n C.1 C.2.1 dX1_fromVictim_61 rfl (lv_at hl 0 rfl) ?_
        exact m_iret C Wd hf dX1_fromVictim_62
    · replace hf := hf.2 hc
      refine lv_iconst (v := (-1)) C.1 C.2.1 dX1_fromVictim_34 (by decide) ?_
      exact m_iret C Wd hf dX1_fromVictim_35
set_option maxHeartbeats 4000000 in
set_option maxRecDepth 100000 in
theorem cM_fromVictim (l : Launch) (D : va_G) (ad : MA) (v1 : Int32) : m_Mi l D yX1_fromVictim cX1_fromVictim 3 (some .int) { frames := 2, cells := 0, slots := 0, locals := 45 } ad [.ref (m_h ad), .int v1] (fun σ post => wM_fromVictim (m_lim ad) σ v1 post) := by
  refine m_ofi ⟨by decide, rfl, Nat.le_of_ble_eq_true rfl⟩ (fun {p e s m args below meth c σ A post ls} C Wd hf hl => ?_)
  replace hl : lv_has ls 3 [(0, .ref (m_h ad)), (1, .int v1)] := hl
  refine lv_aload_n C.1 C.2.1 dX1_fromVictim_0 rfl (lv_at hl 0 rfl) ?_
  refine m_get_vi C Wd dX1_fromVictim_1 ?_
  refine lv_if_ge (tgt := 11) C.1 C.2.1 dX1_fromVictim_4 (by decide) (fun hc => ?_) (fun hc => ?_)
  · replace hf := hf.1 hc
    refine lv_aload_n C.1 C.2.1 dX1_fromVictim_11 rfl (lv_at hl 0 rfl) ?_
    refine lv_aload_n C.1 C.2.1 dX1_fromVictim_12 rfl (lv_at hl 0 rfl) ?_
    refine m_get_vi C Wd dX1_fromVictim_13 ?_
    refine m_calliv (As := [.int (m_vi σ)]) (rest := []) C Wd (cM_at l D ad (m_vi σ)) sM_at (by decide) rfl hl.1 rfl (Nat.le_of_ble_eq_true rfl) (by decide) dX1_fromVictim_16 hf (fun r16 σ16 H locs hf Wd => ?_)
    exact bM_fromVictim_19 C Wd hf hl
  · replace hf := hf.2 hc
    refine lv_iconst (v := (-1)) C.1 C.2.1 dX1_fromVictim_7 (by decide) ?_
    refine lv_goto (tgt := 19) C.1 C.2.1 dX1_fromVictim_8 (by decide) ?_
    exact bM_fromVictim_19 C Wd hf hl
set_option maxHeartbeats 4000000 in
set_option maxRecDepth 100000 in
theorem bM_takeSmall_99 {p : Program} {l : Launch} {e : Env} {s : State} {m : MethodId} {args : Array Value} {below : List Frame} {meth : Method} {c : Code} {D : va_G} {ad : MA} {A : Nat → Prop} (C : m_C p s m args meth c cX1_takeSmall 4 (some .int)) {post : Int32 → MS → Prop} {σ : MS} {H : Heap} {locs : List Loc} {ls : Array Slot} {v2 : Int32} (Wd : m_W D ad σ A s H locs) (hf : wM_takeSmall_99 (m_lim ad) σ v2 post) (hl : lv_has ls 4 [(0, .ref (m_h ad)), (2, .int v2)]) : W p l e { frames := 3, cells := 0, slots := 0, locals := 67 } s m args below meth c H locs 0 0 (m_Qi below D ad A args s post) (F0 m 99 ls []) := by
  refine lv_aload_n C.1 C.2.1 dX1_takeSmall_99 rfl (lv_at hl 0 rfl) ?_
  refine lv_aload_n C.1 C.2.1 dX1_takeSmall_100 rfl (lv_at hl 0 rfl) ?_
  refine m_get_fi C Wd dX1_takeSmall_101 ?_
  refine lv_iload_n C.1 C.2.1 dX1_takeSmall_104 rfl (lv_at hl 1 rfl) ?_
  refine lv_iconst (v := 1) C.1 C.2.1 dX1_takeSmall_105 (by decide) ?_
  refine lv_iadd C.1 C.2.1 dX1_takeSmall_106 ?_
  refine m_ald_fi C Wd hf.1 dX1_takeSmall_107 ?_
  replace hf := hf.2
  refine m_put_vi C Wd dX1_takeSmall_108 (fun H locs Wd => ?_)
  refine lv_iload_n C.1 C.2.1 dX1_takeSmall_111 rfl (lv_at hl 1 rfl) ?_
  exact m_iret C Wd hf dX1_takeSmall_112
set_option maxHeartbeats 4000000 in
set_option maxRecDepth 100000 in
theorem bM_takeSmall_89 {p : Program} {l : Launch} {e : Env} {s : State} {m : MethodId} {args : Array Value} {below : List Frame} {meth : Method} {c : Code} {D : va_G} {ad : MA} {A : Nat → Prop} (C : m_C p s m args meth c cX1_takeSmall 4 (some .int)) {post : Int32 → MS → Prop} {σ : MS} {H : Heap} {locs : List Loc} {ls : Array Slot} {v2 : Int32} {k0 : Int32} (Wd : m_W D ad σ A s H locs) (hf : wM_takeSmall_89 (m_lim ad) σ v2 k0 post) (hl : lv_has ls 4 [(0, .ref (m_h ad)), (2, .int v2)]) : W p l e { frames := 3, cells := 0, slots := 0, locals := 67 } s m args below meth c H locs 0 0 (m_Qi below D ad A args s post) (F0 m 89 ls [.int k0]) := by
  refine lv_istore_n (lv' := [(3, .int k0), (0, .ref (m_h ad)), (2, .int v2)]) C.1 C.2.1 dX1_takeSmall_89 rfl hl (by decide) rfl (fun ls hl => ?_)
  refine lv_iload_n C.1 C.2.1 dX1_takeSmall_90 rfl (lv_at hl 0 rfl) ?_
  refine lv_if_lt (tgt := 99) C.1 C.2.1 dX1_takeSmall_91 (by decide) (fun hc => ?_) (fun hc => ?_)
  · replace hf := hf.1 hc
    exact bM_takeSmall_99 C Wd hf (lv_sub hl [1, 2] rfl)
  · replace hf := hf.2 hc
    refine lv_aload_n C.1 C.2.1 dX1_takeSmall_94 rfl (lv_at hl 1 rfl) ?_
    refine lv_iload_n C.1 C.2.1 dX1_takeSmall_95 rfl (lv_at hl 0 rfl) ?_
    refine m_callvv (As := [.int k0]) (rest := []) C Wd (cM_store l D ad k0) sM_store (by decide) rfl hl.1 rfl (Nat.le_of_ble_eq_true rfl) (by decide) dX1_takeSmall_96 hf (fun σ96 H locs hf Wd => ?_)
    exact bM_takeSmall_99 C Wd hf (lv_sub hl [1, 2] rfl)
set_option maxHeartbeats 4000000 in
set_option maxRecDepth 100000 in
theorem bM_takeSmall_15 {p : Program} {l : Launch} {e : Env} {s : State} {m : MethodId} {args : Array Value} {below : List Frame} {meth : Method} {c : Code} {D : va_G} {ad : MA} {A : Nat → Prop} (C : m_C p s m args meth c cX1_takeSmall 4 (some .int)) {post : Int32 → MS → Prop} {σ : MS} {H : Heap} {locs : List Loc} {ls : Array Slot} {v1 : Int32} {k1 : Int32} {k0 : Int32} (Wd : m_W D ad σ A s H locs) (hf : wM_takeSmall_15 (m_lim ad) σ v1 k1 k0 post) (hl : lv_has ls 4 [(0, .ref (m_h ad)), (1, .int v1)]) : W p l e { frames := 3, cells := 0, slots := 0, locals := 67 } s m args below meth c H locs 0 0 (m_Qi below D ad A args s post) (F0 m 15 ls [.int k0, .int k1, .ref (m_h ad)]) := by
  refine m_calliv (As := [.int k1, .int k0]) (rest := []) C Wd (cM_best l D ad k1 k0) sM_best (by decide) rfl hl.1 rfl (Nat.le_of_ble_eq_true rfl) (by decide) dX1_takeSmall_15 hf (fun r15 σ15 H locs hf Wd => ?_)
  refine lv_istore_n (lv' := [(2, .int r15), (0, .ref (m_h ad)), (1, .int v1)]) C.1 C.2.1 dX1_takeSmall_18 rfl hl (by decide) rfl (fun ls hl => ?_)
  refine lv_iload_n C.1 C.2.1 dX1_takeSmall_19 rfl (lv_at hl 0 rfl) ?_
  refine lv_if_lt (tgt := 32) C.1 C.2.1 dX1_takeSmall_20 (by decide) (fun hc => ?_) (fun hc => ?_)
  · replace hf := hf.1 hc
    refine lv_aload_n C.1 C.2.1 dX1_takeSmall_32 rfl (lv_at hl 1 rfl) ?_
    refine lv_iload_n C.1 C.2.1 dX1_takeSmall_33 rfl (lv_at hl 2 rfl) ?_
    refine m_calliv (As := [.int v1]) (rest := []) C Wd (cM_fromVictim l D ad v1) sM_fromVictim (by decide) rfl hl.1 rfl (Nat.le_of_ble_eq_true rfl) (by decide) dX1_takeSmall_34 hf (fun r34 σ34 H locs hf Wd => ?_)
    refine lv_istore_n (lv' := [(2, .int r34), (0, .ref (m_h ad)), (1, .int v1)]) C.1 C.2.1 dX1_takeSmall_37 rfl hl (by decide) rfl (fun ls hl => ?_)
    refine lv_iload_n C.1 C.2.1 dX1_takeSmall_38 rfl (lv_at hl 0 rfl) ?_
    refine lv_if_lt (tgt := 44) C.1 C.2.1 dX1_takeSmall_39 (by decide) (fun hc => ?_) (fun hc => ?_)
    · replace hf := hf.1 hc
      refine lv_aload_n C.1 C.2.1 dX1_takeSmall_44 rfl (lv_at hl 1 rfl) ?_
      refine lv_iload_n C.1 C.2.1 dX1_takeSmall_45 rfl (lv_at hl 2 rfl) ?_
      refine lv_iconst (v := 1) C.1 C.2.1 dX1_takeSmall_46 (by decide) ?_
      refine lv_iadd C.1 C.2.1 dX1_takeSmall_47 ?_
      refine lv_sipush (v := 1000) C.1 C.2.1 dX1_takeSmall_48 (by decide) ?_
      refine m_calliv (As := [.int (v1 + 1), .int 1000]) (rest := []) C Wd (cM_best l D ad (v1 + 1) 1000) sM_best (by decide) rfl hl.1 rfl (Nat.le_of_ble_eq_true rfl) (by decide) dX1_takeSmall_51 hf (fun r51 σ51 H locs hf Wd => ?_)
      refine lv_istore_n (lv' := [(2, .int r51), (0, .ref (m_h ad)), (1, .int v1)]) C.1 C.2.1 dX1_takeSmall_54 rfl hl (by decide) rfl (fun ls hl => ?_)
      refine lv_iload_n C.1 C.2.1 dX1_takeSmall_55 rfl (lv_at hl 0 rfl) ?_
      refine lv_if_ge (tgt := 61) C.1 C.2.1 dX1_takeSmall_56 (by decide) (fun hc => ?_) (fun hc => ?_)
      · replace hf := hf.1 hc
        refine lv_aload_n C.1 C.2.1 dX1_takeSmall_61 rfl (lv_at hl 1 rfl) ?_
        refine lv_iload_n C.1 C.2.1 dX1_takeSmall_62 rfl (lv_at hl 0 rfl) ?_
        refine lv_iload_n C.1 C.2.1 dX1_takeSmall_63 rfl (lv_at hl 2 rfl) ?_
        refine m_calliv (As := [.int r51, .int v1]) (rest := []) C Wd (cM_cut l D ad r51 v1) sM_cut (by decide) rfl hl.1 rfl (Nat.le_of_ble_eq_true rfl) (by decide) dX1_takeSmall_64 hf (fun r64 σ64 H locs hf Wd => ?_)
        refine lv_if_eq (tgt := 111) C.1 C.2.1 dX1_takeSmall_67 (by decide) (fun hc => ?_) (fun hc => ?_)
        · replace hf := hf.1 hc
          refine lv_iload_n C.1 C.2.1 dX1_takeSmall_111 rfl (lv_at hl 0 rfl) ?_
          exact m_iret C Wd hf dX1_takeSmall_112
        · replace hf := hf.2 hc
          refine lv_aload_n C.1 C.2.1 dX1_takeSmall_70 rfl (lv_at hl 1 rfl) ?_
          refine m_get_vi C Wd dX1_takeSmall_71 ?_
          refine lv_if_ge (tgt := 81) C.1 C.2.1 dX1_takeSmall_74 (by decide) (fun hc => ?_) (fun hc => ?_)
          · replace hf := hf.1 hc
            refine lv_aload_n C.1 C.2.1 dX1_takeSmall_81 rfl (lv_at hl 1 rfl) ?_
            refine lv_aload_n C.1 C.2.1 dX1_takeSmall_82 rfl (lv_at hl 1 rfl) ?_
            refine m_get_vi C Wd dX1_takeSmall_83 ?_
            refine m_calliv (As := [.int (m_vi σ64)]) (rest := []) C Wd (cM_at l D ad (m_vi σ64)) sM_at (by decide) rfl hl.1 rfl (Nat.le_of_ble_eq_true rfl) (by decide) dX1_takeSmall_86 hf (fun r86 σ86 H locs hf Wd => ?_)
            exact bM_takeSmall_89 C Wd hf (lv_sub hl [1, 0] rfl)
          · replace hf := hf.2 hc
            refine lv_iconst (v := (-1)) C.1 C.2.1 dX1_takeSmall_77 (by decide) ?_
            refine lv_goto (tgt := 89) C.1 C.2.1 dX1_takeSmall_78 (by decide) ?_
            exact bM_takeSmall_89 C Wd hf (lv_sub hl [1, 0] rfl)
      · replace hf := hf.2 hc
        refine lv_iconst (v := (-1)) C.1 C.2.1 dX1_takeSmall_59 (by decide) ?_
        exact m_iret C Wd hf dX1_takeSmall_60
    · replace hf := hf.2 hc
      refine lv_iload_n C.1 C.2.1 dX1_takeSmall_42 rfl (lv_at hl 0 rfl) ?_
      exact m_iret C Wd hf dX1_takeSmall_43
  · replace hf := hf.2 hc
    refine lv_aload_n C.1 C.2.1 dX1_takeSmall_23 rfl (lv_at hl 1 rfl) ?_
    refine m_get_us C Wd dX1_takeSmall_24 ?_
    refine lv_iload_n C.1 C.2.1 dX1_takeSmall_27 rfl (lv_at hl 0 rfl) ?_
    refine lv_iconst (v := 1) C.1 C.2.1 dX1_takeSmall_28 (by decide) ?_
    refine m_ast_us C Wd hf.1 rfl dX1_takeSmall_29 (fun H locs Wd => ?_)
    replace hf := hf.2
    refine lv_iload_n C.1 C.2.1 dX1_takeSmall_30 rfl (lv_at hl 0 rfl) ?_
    exact m_iret C Wd hf dX1_takeSmall_31
set_option maxHeartbeats 4000000 in
set_option maxRecDepth 100000 in
theorem cM_takeSmall (l : Launch) (D : va_G) (ad : MA) (v1 : Int32) : m_Mi l D yX1_takeSmall cX1_takeSmall 4 (some .int) { frames := 3, cells := 0, slots := 0, locals := 67 } ad [.ref (m_h ad), .int v1] (fun σ post => wM_takeSmall (m_lim ad) σ v1 post) := by
  refine m_ofi ⟨by decide, rfl, Nat.le_of_ble_eq_true rfl⟩ (fun {p e s m args below meth c σ A post ls} C Wd hf hl => ?_)
  replace hl : lv_has ls 4 [(0, .ref (m_h ad)), (1, .int v1)] := hl
  refine lv_aload_n C.1 C.2.1 dX1_takeSmall_0 rfl (lv_at hl 0 rfl) ?_
  refine lv_iload_n C.1 C.2.1 dX1_takeSmall_1 rfl (lv_at hl 1 rfl) ?_
  refine lv_iload_n C.1 C.2.1 dX1_takeSmall_2 rfl (lv_at hl 1 rfl) ?_
  refine lv_bipush (v := 15) C.1 C.2.1 dX1_takeSmall_3 (by decide) ?_
  refine lv_icmp_ge (tgt := 14) C.1 C.2.1 dX1_takeSmall_5 (by decide) (fun hc => ?_) (fun hc => ?_)
  · replace hf := hf.1 hc
    refine lv_iload_n C.1 C.2.1 dX1_takeSmall_14 rfl (lv_at hl 1 rfl) ?_
    exact bM_takeSmall_15 C Wd hf hl
  · replace hf := hf.2 hc
    refine lv_iload_n C.1 C.2.1 dX1_takeSmall_8 rfl (lv_at hl 1 rfl) ?_
    refine lv_iconst (v := 1) C.1 C.2.1 dX1_takeSmall_9 (by decide) ?_
    refine lv_iadd C.1 C.2.1 dX1_takeSmall_10 ?_
    refine lv_goto (tgt := 15) C.1 C.2.1 dX1_takeSmall_11 (by decide) ?_
    exact bM_takeSmall_15 C Wd hf hl
set_option maxHeartbeats 4000000 in
set_option maxRecDepth 100000 in
theorem bM_takeLarge_80 {p : Program} {l : Launch} {e : Env} {s : State} {m : MethodId} {args : Array Value} {below : List Frame} {meth : Method} {c : Code} {D : va_G} {ad : MA} {A : Nat → Prop} (C : m_C p s m args meth c cX1_takeLarge 4 (some .int)) {post : Int32 → MS → Prop} {σ : MS} {H : Heap} {locs : List Loc} {ls : Array Slot} {v1 : Int32} (Wd : m_W D ad σ A s H locs) (hf : wM_takeLarge_80 (m_lim ad) σ v1 post) (hl : lv_has ls 4 [(0, .ref (m_h ad)), (1, .int v1)]) : W p l e { frames := 3, cells := 0, slots := 0, locals := 67 } s m args below meth c H locs 0 0 (m_Qi below D ad A args s post) (F0 m 80 ls []) := by
  refine lv_aload_n C.1 C.2.1 dX1_takeLarge_80 rfl (lv_at hl 0 rfl) ?_
  refine lv_iload_n C.1 C.2.1 dX1_takeLarge_81 rfl (lv_at hl 1 rfl) ?_
  refine m_calliv (As := [.int v1]) (rest := []) C Wd (cM_fromVictim l D ad v1) sM_fromVictim (by decide) rfl hl.1 rfl (Nat.le_of_ble_eq_true rfl) (by decide) dX1_takeLarge_82 hf (fun r82 σ82 H locs hf Wd => ?_)
  exact m_iret C Wd hf dX1_takeLarge_85
set_option maxHeartbeats 4000000 in
set_option maxRecDepth 100000 in
theorem bM_takeLarge_62 {p : Program} {l : Launch} {e : Env} {s : State} {m : MethodId} {args : Array Value} {below : List Frame} {meth : Method} {c : Code} {D : va_G} {ad : MA} {A : Nat → Prop} (C : m_C p s m args meth c cX1_takeLarge 4 (some .int)) {post : Int32 → MS → Prop} {σ : MS} {H : Heap} {locs : List Loc} {ls : Array Slot} {v1 : Int32} {v2 : Int32} (Wd : m_W D ad σ A s H locs) (hf : wM_takeLarge_62 (m_lim ad) σ v1 v2 post) (hl : lv_has ls 4 [(0, .ref (m_h ad)), (1, .int v1), (2, .int v2)]) : W p l e { frames := 3, cells := 0, slots := 0, locals := 67 } s m args below meth c H locs 0 0 (m_Qi below D ad A args s post) (F0 m 62 ls []) := by
  refine lv_aload_n C.1 C.2.1 dX1_takeLarge_62 rfl (lv_at hl 0 rfl) ?_
  refine lv_iload_n C.1 C.2.1 dX1_takeLarge_63 rfl (lv_at hl 2 rfl) ?_
  refine lv_iload_n C.1 C.2.1 dX1_takeLarge_64 rfl (lv_at hl 1 rfl) ?_
  refine m_calliv (As := [.int v2, .int v1]) (rest := []) C Wd (cM_cut l D ad v2 v1) sM_cut (by decide) rfl hl.1 rfl (Nat.le_of_ble_eq_true rfl) (by decide) dX1_takeLarge_65 hf (fun r65 σ65 H locs hf Wd => ?_)
  refine lv_if_eq (tgt := 78) C.1 C.2.1 dX1_takeLarge_68 (by decide) (fun hc => ?_) (fun hc => ?_)
  · replace hf := hf.1 hc
    refine lv_iload_n C.1 C.2.1 dX1_takeLarge_78 rfl (lv_at hl 2 rfl) ?_
    exact m_iret C Wd hf dX1_takeLarge_79
  · replace hf := hf.2 hc
    refine lv_aload_n C.1 C.2.1 dX1_takeLarge_71 rfl (lv_at hl 0 rfl) ?_
    refine lv_iload_n C.1 C.2.1 dX1_takeLarge_72 rfl (lv_at hl 2 rfl) ?_
    refine lv_iconst (v := 1) C.1 C.2.1 dX1_takeLarge_73 (by decide) ?_
    refine lv_iadd C.1 C.2.1 dX1_takeLarge_74 ?_
    refine m_callvv (As := [.int (v2 + 1)]) (rest := []) C Wd (cM_store l D ad (v2 + 1)) sM_store (by decide) rfl hl.1 rfl (Nat.le_of_ble_eq_true rfl) (by decide) dX1_takeLarge_75 hf (fun σ75 H locs hf Wd => ?_)
    refine lv_iload_n C.1 C.2.1 dX1_takeLarge_78 rfl (lv_at hl 2 rfl) ?_
    exact m_iret C Wd hf dX1_takeLarge_79
set_option maxHeartbeats 4000000 in
set_option maxRecDepth 100000 in
theorem bM_takeLarge_28 {p : Program} {l : Launch} {e : Env} {s : State} {m : MethodId} {args : Array Value} {below : List Frame} {meth : Method} {c : Code} {D : va_G} {ad : MA} {A : Nat → Prop} (C : m_C p s m args meth c cX1_takeLarge 4 (some .int)) {post : Int32 → MS → Prop} {σ : MS} {H : Heap} {locs : List Loc} {ls : Array Slot} {v1 : Int32} {v2 : Int32} {k0 : Int32} (Wd : m_W D ad σ A s H locs) (hf : wM_takeLarge_28 (m_lim ad) σ v1 v2 k0 post) (hl : lv_has ls 4 [(0, .ref (m_h ad)), (1, .int v1), (2, .int v2)]) : W p l e { frames := 3, cells := 0, slots := 0, locals := 67 } s m args below meth c H locs 0 0 (m_Qi below D ad A args s post) (F0 m 28 ls [.int k0]) := by
  refine lv_istore_n (lv' := [(3, .int k0), (0, .ref (m_h ad)), (1, .int v1), (2, .int v2)]) C.1 C.2.1 dX1_takeLarge_28 rfl hl (by decide) rfl (fun ls hl => ?_)
  refine lv_iload_n C.1 C.2.1 dX1_takeLarge_29 rfl (lv_at hl 3 rfl) ?_
  refine lv_if_lt (tgt := 80) C.1 C.2.1 dX1_takeLarge_30 (by decide) (fun hc => ?_) (fun hc => ?_)
  · replace hf := hf.1 hc
    exact bM_takeLarge_80 C Wd hf (lv_sub hl [1, 2] rfl)
  · replace hf := hf.2 hc
    refine lv_iload_n C.1 C.2.1 dX1_takeLarge_33 rfl (lv_at hl 0 rfl) ?_
    refine lv_if_lt (tgt := 62) C.1 C.2.1 dX1_takeLarge_34 (by decide) (fun hc => ?_) (fun hc => ?_)
    · replace hf := hf.1 hc
      exact bM_takeLarge_62 C Wd hf (lv_sub hl [1, 2, 3] rfl)
    · replace hf := hf.2 hc
      refine lv_aload_n C.1 C.2.1 dX1_takeLarge_37 rfl (lv_at hl 1 rfl) ?_
      refine m_get_sz C Wd dX1_takeLarge_38 ?_
      refine lv_iload_n C.1 C.2.1 dX1_takeLarge_41 rfl (lv_at hl 0 rfl) ?_
      refine m_ald_sz C Wd hf.1 dX1_takeLarge_42 ?_
      replace hf := hf.2
      refine lv_iload_n C.1 C.2.1 dX1_takeLarge_43 rfl (lv_at hl 2 rfl) ?_
      refine lv_icmp_lt (tgt := 62) C.1 C.2.1 dX1_takeLarge_44 (by decide) (fun hc => ?_) (fun hc => ?_)
      · replace hf := hf.1 hc
        exact bM_takeLarge_62 C Wd hf (lv_sub hl [1, 2, 3] rfl)
      · replace hf := hf.2 hc
        refine lv_aload_n C.1 C.2.1 dX1_takeLarge_47 rfl (lv_at hl 1 rfl) ?_
        refine m_get_sz C Wd dX1_takeLarge_48 ?_
        refine lv_iload_n C.1 C.2.1 dX1_takeLarge_51 rfl (lv_at hl 3 rfl) ?_
        refine m_ald_sz C Wd hf.1 dX1_takeLarge_52 ?_
        replace hf := hf.2
        refine lv_aload_n C.1 C.2.1 dX1_takeLarge_53 rfl (lv_at hl 1 rfl) ?_
        refine m_get_sz C Wd dX1_takeLarge_54 ?_
        refine lv_iload_n C.1 C.2.1 dX1_takeLarge_57 rfl (lv_at hl 0 rfl) ?_
        refine m_ald_sz C Wd hf.1 dX1_takeLarge_58 ?_
        replace hf := hf.2
        refine lv_icmp_ge (tgt := 80) C.1 C.2.1 dX1_takeLarge_59 (by decide) (fun hc => ?_) (fun hc => ?_)
        · replace hf := hf.1 hc
          exact bM_takeLarge_80 C Wd hf (lv_sub hl [1, 2] rfl)
        · replace hf := hf.2 hc
          exact bM_takeLarge_62 C Wd hf (lv_sub hl [1, 2, 3] rfl)
set_option maxHeartbeats 4000000 in
set_option maxRecDepth 100000 in
theorem cM_takeLarge (l : Launch) (D : va_G) (ad : MA) (v1 : Int32) : m_Mi l D yX1_takeLarge cX1_takeLarge 4 (some .int) { frames := 3, cells := 0, slots := 0, locals := 67 } ad [.ref (m_h ad), .int v1] (fun σ post => wM_takeLarge (m_lim ad) σ v1 post) := by
  refine m_ofi ⟨by decide, rfl, Nat.le_of_ble_eq_true rfl⟩ (fun {p e s m args below meth c σ A post ls} C Wd hf hl => ?_)
  replace hl : lv_has ls 4 [(0, .ref (m_h ad)), (1, .int v1)] := hl
  refine lv_aload_n C.1 C.2.1 dX1_takeLarge_0 rfl (lv_at hl 0 rfl) ?_
  refine lv_iload_n C.1 C.2.1 dX1_takeLarge_1 rfl (lv_at hl 1 rfl) ?_
  refine lv_sipush (v := 1000) C.1 C.2.1 dX1_takeLarge_2 (by decide) ?_
  refine m_calliv (As := [.int v1, .int 1000]) (rest := []) C Wd (cM_best l D ad v1 1000) sM_best (by decide) rfl hl.1 rfl (Nat.le_of_ble_eq_true rfl) (by decide) dX1_takeLarge_5 hf (fun r5 σ5 H locs hf Wd => ?_)
  refine lv_istore_n (lv' := [(2, .int r5), (0, .ref (m_h ad)), (1, .int v1)]) C.1 C.2.1 dX1_takeLarge_8 rfl hl (by decide) rfl (fun ls hl => ?_)
  refine lv_aload_n C.1 C.2.1 dX1_takeLarge_9 rfl (lv_at hl 1 rfl) ?_
  refine m_get_vi C Wd dX1_takeLarge_10 ?_
  refine lv_if_ge (tgt := 20) C.1 C.2.1 dX1_takeLarge_13 (by decide) (fun hc => ?_) (fun hc => ?_)
  · replace hf := hf.1 hc
    refine lv_aload_n C.1 C.2.1 dX1_takeLarge_20 rfl (lv_at hl 1 rfl) ?_
    refine lv_aload_n C.1 C.2.1 dX1_takeLarge_21 rfl (lv_at hl 1 rfl) ?_
    refine m_get_vi C Wd dX1_takeLarge_22 ?_
    refine m_calliv (As := [.int (m_vi σ5)]) (rest := []) C Wd (cM_at l D ad (m_vi σ5)) sM_at (by decide) rfl hl.1 rfl (Nat.le_of_ble_eq_true rfl) (by decide) dX1_takeLarge_25 hf (fun r25 σ25 H locs hf Wd => ?_)
    exact bM_takeLarge_28 C Wd hf (lv_sub hl [1, 2, 0] rfl)
  · replace hf := hf.2 hc
    refine lv_iconst (v := (-1)) C.1 C.2.1 dX1_takeLarge_16 (by decide) ?_
    refine lv_goto (tgt := 28) C.1 C.2.1 dX1_takeLarge_17 (by decide) ?_
    exact bM_takeLarge_28 C Wd hf (lv_sub hl [1, 2, 0] rfl)
set_option maxHeartbeats 4000000 in
set_option maxRecDepth 100000 in
theorem bM_grow_128 {p : Program} {l : Launch} {e : Env} {s : State} {m : MethodId} {args : Array Value} {below : List Frame} {meth : Method} {c : Code} {D : va_G} {ad : MA} {A : Nat → Prop} (C : m_C p s m args meth c cX1_grow 5 (some .boolean)) {post : Int32 → MS → Prop} {σ : MS} {H : Heap} {locs : List Loc} {ls : Array Slot} {v2 : Int32} (Wd : m_W D ad σ A s H locs) (hf : wM_grow_128 (m_lim ad) σ v2 post) (hl : lv_has ls 5 [(0, .ref (m_h ad)), (2, .int v2)]) : W p l e { frames := 1, cells := 0, slots := 0, locals := 20 } s m args below meth c H locs 0 0 (m_Qi below D ad A args s post) (F0 m 128 ls []) := by
  refine lv_aload_n C.1 C.2.1 dX1_grow_128 rfl (lv_at hl 0 rfl) ?_
  refine lv_aload_n C.1 C.2.1 dX1_grow_129 rfl (lv_at hl 0 rfl) ?_
  refine m_get_en C Wd dX1_grow_130 ?_
  refine lv_iload_n C.1 C.2.1 dX1_grow_133 rfl (lv_at hl 1 rfl) ?_
  refine lv_iadd C.1 C.2.1 dX1_grow_134 ?_
  refine m_put_en C Wd dX1_grow_135 (fun H locs Wd => ?_)
  refine lv_iconst (v := 1) C.1 C.2.1 dX1_grow_138 (by decide) ?_
  exact m_zret C Wd (by decide) hf dX1_grow_139
set_option maxHeartbeats 4000000 in
set_option maxRecDepth 100000 in
theorem bM_grow_103_f {p : Program} {l : Launch} {e : Env} {s : State} {m : MethodId} {args : Array Value} {below : List Frame} {meth : Method} {c : Code} {D : va_G} {ad : MA} {A : Nat → Prop} (C : m_C p s m args meth c cX1_grow 5 (some .boolean)) {post : Int32 → MS → Prop} : ∀ (f : Nat) (σ : MS) (H : Heap) (locs : List Loc) (ls : Array Slot) (v2 : Int32) (v4 : Int32), m_W D ad σ A s H locs → wM_grow_103 (m_lim ad) post f σ v2 v4 → lv_has ls 5 [(0, .ref (m_h ad)), (2, .int v2), (4, .int v4)] → W p l e { frames := 1, cells := 0, slots := 0, locals := 20 } s m args below meth c H locs 0 0 (m_Qi below D ad A args s post) (F0 m 103 ls []) := by
  intro f
  induction f with
  | zero => intro σ H locs ls v2 v4 Wd hf hl; exact False.elim hf
  | succ f ih =>
    intro σ H locs ls v2 v4 Wd hf hl
    replace hf : wM_grow_103_s (m_lim ad) post (wM_grow_103 (m_lim ad) post f) σ v2 v4 := hf
    refine lv_iload C.1 C.2.1 dX1_grow_103 (lv_at hl 2 rfl) ?_
    refine lv_aload_n C.1 C.2.1 dX1_grow_105 rfl (lv_at hl 0 rfl) ?_
    refine m_get_en C Wd dX1_grow_106 ?_
    refine lv_iload_n C.1 C.2.1 dX1_grow_109 rfl (lv_at hl 1 rfl) ?_
    refine lv_iadd C.1 C.2.1 dX1_grow_110 ?_
    refine lv_icmp_ge (tgt := 128) C.1 C.2.1 dX1_grow_111 (by decide) (fun hc => ?_) (fun hc => ?_)
    · replace hf := hf.1 hc
      exact bM_grow_128 C Wd hf (lv_sub hl [0, 1] rfl)
    · replace hf := hf.2 hc
      refine lv_aload_n C.1 C.2.1 dX1_grow_114 rfl (lv_at hl 0 rfl) ?_
      refine m_get_un C Wd dX1_grow_115 ?_
      refine lv_iload C.1 C.2.1 dX1_grow_118 (lv_at hl 2 rfl) ?_
      refine lv_iconst (v := 0) C.1 C.2.1 dX1_grow_120 (by decide) ?_
      refine m_ast_un C Wd hf.1 dX1_grow_121 (fun H locs Wd => ?_)
      replace hf := hf.2
      refine lv_iinc (v := v4 + 1) (lv' := [(4, .int (v4 + 1)), (0, .ref (m_h ad)), (2, .int v2)]) C.1 C.2.1 dX1_grow_122 hl (k := 2) rfl rfl (by decide) rfl (fun ls hl => ?_)
      refine lv_goto (tgt := 103) C.1 C.2.1 dX1_grow_125 (by decide) ?_
      exact ih _ _ _ _ _ _  Wd hf (lv_sub hl [1, 2, 0] rfl)
theorem bM_grow_103 {p : Program} {l : Launch} {e : Env} {s : State} {m : MethodId} {args : Array Value} {below : List Frame} {meth : Method} {c : Code} {D : va_G} {ad : MA} {A : Nat → Prop} (C : m_C p s m args meth c cX1_grow 5 (some .boolean)) {post : Int32 → MS → Prop} {σ : MS} {H : Heap} {locs : List Loc} {ls : Array Slot} {v2 : Int32} {v4 : Int32} (Wd : m_W D ad σ A s H locs) (hf : ∃ f : Nat, wM_grow_103 (m_lim ad) post f σ v2 v4) (hl : lv_has ls 5 [(0, .ref (m_h ad)), (2, .int v2), (4, .int v4)]) : W p l e { frames := 1, cells := 0, slots := 0, locals := 20 } s m args below meth c H locs 0 0 (m_Qi below D ad A args s post) (F0 m 103 ls []) := by
  obtain ⟨f, hf⟩ := hf
  exact bM_grow_103_f C f σ H locs ls v2 v4 Wd hf hl
set_option maxHeartbeats 4000000 in
set_option maxRecDepth 100000 in
theorem bM_grow_83 {p : Program} {l : Launch} {e : Env} {s : State} {m : MethodId} {args : Array Value} {below : List Frame} {meth : Method} {c : Code} {D : va_G} {ad : MA} {A : Nat → Prop} (C : m_C p s m args meth c cX1_grow 5 (some .boolean)) {post : Int32 → MS → Prop} {σ : MS} {H : Heap} {locs : List Loc} {ls : Array Slot} {v2 : Int32} {v3 : Int32} (Wd : m_W D ad σ A s H locs) (hf : wM_grow_83 (m_lim ad) σ v2 v3 post) (hl : lv_has ls 5 [(0, .ref (m_h ad)), (2, .int v2), (3, .int v3)]) : W p l e { frames := 1, cells := 0, slots := 0, locals := 20 } s m args below meth c H locs 0 0 (m_Qi below D ad A args s post) (F0 m 83 ls []) := by
  refine lv_aload_n C.1 C.2.1 dX1_grow_83 rfl (lv_at hl 0 rfl) ?_
  refine m_get_sz C Wd dX1_grow_84 ?_
  refine lv_iload_n C.1 C.2.1 dX1_grow_87 rfl (lv_at hl 2 rfl) ?_
  refine lv_aload_n C.1 C.2.1 dX1_grow_88 rfl (lv_at hl 0 rfl) ?_
  refine m_get_sz C Wd dX1_grow_89 ?_
  refine lv_iload_n C.1 C.2.1 dX1_grow_92 rfl (lv_at hl 2 rfl) ?_
  refine m_ald_sz C Wd hf.1 dX1_grow_93 ?_
  replace hf := hf.2
  refine lv_iload_n C.1 C.2.1 dX1_grow_94 rfl (lv_at hl 1 rfl) ?_
  refine lv_iadd C.1 C.2.1 dX1_grow_95 ?_
  refine m_ast_sz C Wd hf.1 dX1_grow_96 (fun H locs Wd => ?_)
  replace hf := hf.2
  refine lv_aload_n C.1 C.2.1 dX1_grow_97 rfl (lv_at hl 0 rfl) ?_
  refine m_get_en C Wd dX1_grow_98 ?_
  refine lv_istore (lv' := [(4, .int (m_en (m_ssz σ (upd (m_sz σ) v3.toNatClampNeg ((m_sz σ v3.toNatClampNeg) + v2))))), (0, .ref (m_h ad)), (2, .int v2), (3, .int v3)]) C.1 C.2.1 dX1_grow_101 hl (by decide) rfl (fun ls hl => ?_)
  exact bM_grow_103 C Wd hf (lv_sub hl [1, 2, 0] rfl)
set_option maxHeartbeats 4000000 in
set_option maxRecDepth 100000 in
theorem cM_grow (l : Launch) (D : va_G) (ad : MA) (v1 : Int32) : m_Mi l D yX1_grow cX1_grow 5 (some .boolean) { frames := 1, cells := 0, slots := 0, locals := 20 } ad [.ref (m_h ad), .int v1] (fun σ post => wM_grow (m_lim ad) σ v1 post) := by
  refine m_ofi ⟨by decide, rfl, Nat.le_of_ble_eq_true rfl⟩ (fun {p e s m args below meth c σ A post ls} C Wd hf hl => ?_)
  replace hl : lv_has ls 5 [(0, .ref (m_h ad)), (1, .int v1)] := hl
  refine lv_iload_n C.1 C.2.1 dX1_grow_0 rfl (lv_at hl 1 rfl) ?_
  refine lv_bipush (v := 15) C.1 C.2.1 dX1_grow_1 (by decide) ?_
  refine lv_iadd C.1 C.2.1 dX1_grow_3 ?_
  refine lv_bipush (v := 16) C.1 C.2.1 dX1_grow_4 (by decide) ?_
  refine lv_idiv C.1 C.2.1 dX1_grow_6 (by decide) ?_
  refine lv_bipush (v := 16) C.1 C.2.1 dX1_grow_7 (by decide) ?_
  refine lv_imul C.1 C.2.1 dX1_grow_9 ?_
  refine lv_istore_n (lv' := [(2, .int (((v1 + 15) / 16) * 16)), (0, .ref (m_h ad)), (1, .int v1)]) C.1 C.2.1 dX1_grow_10 rfl hl (by decide) rfl (fun ls hl => ?_)
  refine lv_aload_n C.1 C.2.1 dX1_grow_11 rfl (lv_at hl 1 rfl) ?_
  refine m_get_en C Wd dX1_grow_12 ?_
  refine lv_iload_n C.1 C.2.1 dX1_grow_15 rfl (lv_at hl 0 rfl) ?_
  refine lv_iadd C.1 C.2.1 dX1_grow_16 ?_
  refine lv_aload_n C.1 C.2.1 dX1_grow_17 rfl (lv_at hl 1 rfl) ?_
  refine m_get_lim C Wd dX1_grow_18 ?_
  refine lv_icmp_le (tgt := 26) C.1 C.2.1 dX1_grow_21 (by decide) (fun hc => ?_) (fun hc => ?_)
  · replace hf := hf.1 hc
    refine lv_aload_n C.1 C.2.1 dX1_grow_26 rfl (lv_at hl 1 rfl) ?_
    refine m_calliv (As := []) (rest := []) C Wd (cM_top l D ad ) sM_top (by decide) rfl hl.1 rfl (Nat.le_of_ble_eq_true rfl) (by decide) dX1_grow_27 hf (fun r27 σ27 H locs hf Wd => ?_)
    refine lv_istore_n (lv' := [(3, .int r27), (2, .int (((v1 + 15) / 16) * 16)), (0, .ref (m_h ad)), (1, .int v1)]) C.1 C.2.1 dX1_grow_30 rfl hl (by decide) rfl (fun ls hl => ?_)
    refine lv_iload_n C.1 C.2.1 dX1_grow_31 rfl (lv_at hl 0 rfl) ?_
    refine lv_if_ge (tgt := 83) C.1 C.2.1 dX1_grow_32 (by decide) (fun hc => ?_) (fun hc => ?_)
    · replace hf := hf.1 hc
      exact bM_grow_83 C Wd hf (lv_sub hl [2, 1, 0] rfl)
    · replace hf := hf.2 hc
      refine lv_aload_n C.1 C.2.1 dX1_grow_35 rfl (lv_at hl 2 rfl) ?_
      refine m_get_fi C Wd dX1_grow_36 ?_
      refine lv_aload_n C.1 C.2.1 dX1_grow_39 rfl (lv_at hl 2 rfl) ?_
      refine m_get_ch C Wd dX1_grow_40 ?_
      refine lv_aload_n C.1 C.2.1 dX1_grow_43 rfl (lv_at hl 2 rfl) ?_
      refine m_get_en C Wd dX1_grow_44 ?_
      refine m_ast_fi C Wd hf.1 dX1_grow_47 (fun H locs Wd => ?_)
      replace hf := hf.2
      refine lv_aload_n C.1 C.2.1 dX1_grow_48 rfl (lv_at hl 2 rfl) ?_
      refine m_get_sz C Wd dX1_grow_49 ?_
      refine lv_aload_n C.1 C.2.1 dX1_grow_52 rfl (lv_at hl 2 rfl) ?_
      refine m_get_ch C Wd dX1_grow_53 ?_
      refine lv_iconst (v := 0) C.1 C.2.1 dX1_grow_56 (by decide) ?_
      refine m_ast_sz C Wd hf.1 dX1_grow_57 (fun H locs Wd => ?_)
      replace hf := hf.2
      refine lv_aload_n C.1 C.2.1 dX1_grow_58 rfl (lv_at hl 2 rfl) ?_
      refine m_get_us C Wd dX1_grow_59 ?_
      refine lv_aload_n C.1 C.2.1 dX1_grow_62 rfl (lv_at hl 2 rfl) ?_
      refine m_get_ch C Wd dX1_grow_63 ?_
      refine lv_iconst (v := 0) C.1 C.2.1 dX1_grow_66 (by decide) ?_
      refine m_ast_us C Wd hf.1 rfl dX1_grow_67 (fun H locs Wd => ?_)
      replace hf := hf.2
      refine lv_aload_n C.1 C.2.1 dX1_grow_68 rfl (lv_at hl 2 rfl) ?_
      refine m_get_ch C Wd dX1_grow_69 ?_
      refine lv_istore_n (lv' := [(3, .int (m_ch (m_sus (m_ssz (m_sfi σ27 (upd (m_fi σ27) (m_ch σ27).toNatClampNeg (m_en σ27))) (upd (m_sz (m_sfi σ27 (upd (m_fi σ27) (m_ch σ27).toNatClampNeg (m_en σ27)))) (m_ch (m_sfi σ27 (upd (m_fi σ27) (m_ch σ27).toNatClampNeg (m_en σ27)))).toNatClampNeg 0)) (upd (m_us (m_ssz (m_sfi σ27 (upd (m_fi σ27) (m_ch σ27).toNatClampNeg (m_en σ27))) (upd (m_sz (m_sfi σ27 (upd (m_fi σ27) (m_ch σ27).toNatClampNeg (m_en σ27)))) (m_ch (m_sfi σ27 (upd (m_fi σ27) (m_ch σ27).toNatClampNeg (m_en σ27)))).toNatClampNeg 0))) (m_ch (m_ssz (m_sfi σ27 (upd (m_fi σ27) (m_ch σ27).toNatClampNeg (m_en σ27))) (upd (m_sz (m_sfi σ27 (upd (m_fi σ27) (m_ch σ27).toNatClampNeg (m_en σ27)))) (m_ch (m_sfi σ27 (upd (m_fi σ27) (m_ch σ27).toNatClampNeg (m_en σ27)))).toNatClampNeg 0))).toNatClampNeg 0)))), (2, .int (((v1 + 15) / 16) * 16)), (0, .ref (m_h ad)), (1, .int v1)]) C.1 C.2.1 dX1_grow_72 rfl hl (by decide) rfl (fun ls hl => ?_)
      refine lv_aload_n C.1 C.2.1 dX1_grow_73 rfl (lv_at hl 2 rfl) ?_
      refine lv_dup C.1 C.2.1 dX1_grow_74 rfl ?_
      refine m_get_ch C Wd dX1_grow_75 ?_
      refine lv_iconst (v := 1) C.1 C.2.1 dX1_grow_78 (by decide) ?_
      refine lv_iadd C.1 C.2.1 dX1_grow_79 ?_
      refine m_put_ch C Wd dX1_grow_80 (fun H locs Wd => ?_)
      exact bM_grow_83 C Wd hf (lv_sub hl [2, 1, 0] rfl)
  · replace hf := hf.2 hc
    refine lv_iconst (v := 0) C.1 C.2.1 dX1_grow_24 (by decide) ?_
    exact m_zret C Wd (by decide) hf dX1_grow_25
