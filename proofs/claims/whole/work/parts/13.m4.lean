set_option maxHeartbeats 4000000 in
set_option maxRecDepth 100000 in
theorem bM_take_66 {p : Program} {l : Launch} {e : Env} {s : State} {m : MethodId} {args : Array Value} {below : List Frame} {meth : Method} {c : Code} {D : va_G} {ad : MA} {A : Nat → Prop} (C : m_C p s m args meth c cX1_take 6 (some .int)) {post : Int32 → MS → Prop} {σ : MS} {H : Heap} {locs : List Loc} {ls : Array Slot} {v1 : Int32} (Wd : m_W D ad σ A s H locs) (hf : wM_take_66 (m_lim ad) σ v1 post) (hl : lv_has ls 6 [(0, .ref (m_h ad)), (1, .int v1)]) : W p l e { frames := 4, cells := 0, slots := 0, locals := 90 } s m args below meth c H locs 0 0 (m_Qi below D ad A args s post) (F0 m 66 ls []) := by
  refine lv_aload_n C.1 C.2.1 dX1_take_66 rfl (lv_at hl 0 rfl) ?_
  refine m_calliv (As := []) (rest := []) C Wd (cM_top l D ad ) sM_top (by decide) rfl hl.1 rfl (Nat.le_of_ble_eq_true rfl) (by decide) dX1_take_67 hf (fun r67 σ67 H locs hf Wd => ?_)
  refine lv_istore_n (lv' := [(3, .int r67), (0, .ref (m_h ad)), (1, .int v1)]) C.1 C.2.1 dX1_take_70 rfl hl (by decide) rfl (fun ls hl => ?_)
  refine lv_aload_n C.1 C.2.1 dX1_take_71 rfl (lv_at hl 1 rfl) ?_
  refine lv_iload_n C.1 C.2.1 dX1_take_72 rfl (lv_at hl 0 rfl) ?_
  refine lv_iload_n C.1 C.2.1 dX1_take_73 rfl (lv_at hl 2 rfl) ?_
  refine m_calliv (As := [.int r67, .int v1]) (rest := []) C Wd (cM_cut l D ad r67 v1) sM_cut (by decide) rfl hl.1 rfl (Nat.le_of_ble_eq_true rfl) (by decide) dX1_take_74 hf (fun r74 σ74 H locs hf Wd => ?_)
  refine lv_istore (lv' := [(5, .int r74), (3, .int r67), (0, .ref (m_h ad)), (1, .int v1)]) C.1 C.2.1 dX1_take_77 hl (by decide) rfl (fun ls hl => ?_)
  refine lv_iload_n C.1 C.2.1 dX1_take_79 rfl (lv_at hl 1 rfl) ?_
  exact m_iret C Wd hf dX1_take_80
set_option maxHeartbeats 4000000 in
set_option maxRecDepth 100000 in
theorem bM_take_45 {p : Program} {l : Launch} {e : Env} {s : State} {m : MethodId} {args : Array Value} {below : List Frame} {meth : Method} {c : Code} {D : va_G} {ad : MA} {A : Nat → Prop} (C : m_C p s m args meth c cX1_take 6 (some .int)) {post : Int32 → MS → Prop} {σ : MS} {H : Heap} {locs : List Loc} {ls : Array Slot} {v1 : Int32} {k0 : Int32} (Wd : m_W D ad σ A s H locs) (hf : wM_take_45 (m_lim ad) σ v1 k0 post) (hl : lv_has ls 6 [(0, .ref (m_h ad)), (1, .int v1)]) : W p l e { frames := 4, cells := 0, slots := 0, locals := 90 } s m args below meth c H locs 0 0 (m_Qi below D ad A args s post) (F0 m 45 ls [.int k0]) := by
  refine lv_istore (lv' := [(4, .int k0), (0, .ref (m_h ad)), (1, .int v1)]) C.1 C.2.1 dX1_take_45 hl (by decide) rfl (fun ls hl => ?_)
  refine lv_iload C.1 C.2.1 dX1_take_47 (lv_at hl 0 rfl) ?_
  refine lv_iload_n C.1 C.2.1 dX1_take_49 rfl (lv_at hl 2 rfl) ?_
  refine lv_icmp_ge (tgt := 66) C.1 C.2.1 dX1_take_50 (by decide) (fun hc => ?_) (fun hc => ?_)
  · replace hf := hf.1 hc
    exact bM_take_66 C Wd hf (lv_sub hl [1, 2] rfl)
  · replace hf := hf.2 hc
    refine lv_aload_n C.1 C.2.1 dX1_take_53 rfl (lv_at hl 1 rfl) ?_
    refine lv_iload_n C.1 C.2.1 dX1_take_54 rfl (lv_at hl 2 rfl) ?_
    refine lv_iload C.1 C.2.1 dX1_take_55 (lv_at hl 0 rfl) ?_
    refine lv_isub C.1 C.2.1 dX1_take_57 ?_
    refine m_calliv (As := [.int (v1 - k0)]) (rest := []) C Wd (cM_grow l D ad (v1 - k0)) sM_grow (by decide) rfl hl.1 rfl (Nat.le_of_ble_eq_true rfl) (by decide) dX1_take_58 hf (fun r58 σ58 H locs hf Wd => ?_)
    refine lv_if_ne (tgt := 66) C.1 C.2.1 dX1_take_61 (by decide) (fun hc => ?_) (fun hc => ?_)
    · replace hf := hf.1 hc
      exact bM_take_66 C Wd hf (lv_sub hl [1, 2] rfl)
    · replace hf := hf.2 hc
      refine lv_iconst (v := (-1)) C.1 C.2.1 dX1_take_64 (by decide) ?_
      exact m_iret C Wd hf dX1_take_65
set_option maxHeartbeats 4000000 in
set_option maxRecDepth 100000 in
theorem bM_take_19 {p : Program} {l : Launch} {e : Env} {s : State} {m : MethodId} {args : Array Value} {below : List Frame} {meth : Method} {c : Code} {D : va_G} {ad : MA} {A : Nat → Prop} (C : m_C p s m args meth c cX1_take 6 (some .int)) {post : Int32 → MS → Prop} {σ : MS} {H : Heap} {locs : List Loc} {ls : Array Slot} {v1 : Int32} {k0 : Int32} (Wd : m_W D ad σ A s H locs) (hf : wM_take_19 (m_lim ad) σ v1 k0 post) (hl : lv_has ls 6 [(0, .ref (m_h ad)), (1, .int v1)]) : W p l e { frames := 4, cells := 0, slots := 0, locals := 90 } s m args below meth c H locs 0 0 (m_Qi below D ad A args s post) (F0 m 19 ls [.int k0]) := by
  refine lv_istore_n (lv' := [(2, .int k0), (0, .ref (m_h ad)), (1, .int v1)]) C.1 C.2.1 dX1_take_19 rfl hl (by decide) rfl (fun ls hl => ?_)
  refine lv_iload_n C.1 C.2.1 dX1_take_20 rfl (lv_at hl 0 rfl) ?_
  refine lv_if_lt (tgt := 26) C.1 C.2.1 dX1_take_21 (by decide) (fun hc => ?_) (fun hc => ?_)
  · replace hf := hf.1 hc
    refine lv_aload_n C.1 C.2.1 dX1_take_26 rfl (lv_at hl 1 rfl) ?_
    refine m_calliv (As := []) (rest := []) C Wd (cM_top l D ad ) sM_top (by decide) rfl hl.1 rfl (Nat.le_of_ble_eq_true rfl) (by decide) dX1_take_27 hf (fun r27 σ27 H locs hf Wd => ?_)
    refine lv_istore_n (lv' := [(3, .int r27), (2, .int k0), (0, .ref (m_h ad)), (1, .int v1)]) C.1 C.2.1 dX1_take_30 rfl hl (by decide) rfl (fun ls hl => ?_)
    refine lv_iload_n C.1 C.2.1 dX1_take_31 rfl (lv_at hl 0 rfl) ?_
    refine lv_if_ge (tgt := 39) C.1 C.2.1 dX1_take_32 (by decide) (fun hc => ?_) (fun hc => ?_)
    · replace hf := hf.1 hc
      refine lv_aload_n C.1 C.2.1 dX1_take_39 rfl (lv_at hl 2 rfl) ?_
      refine m_get_sz C Wd dX1_take_40 ?_
      refine lv_iload_n C.1 C.2.1 dX1_take_43 rfl (lv_at hl 0 rfl) ?_
      refine m_ald_sz C Wd hf.1 dX1_take_44 ?_
      replace hf := hf.2
      exact bM_take_45 C Wd hf (lv_sub hl [2, 3] rfl)
    · replace hf := hf.2 hc
      refine lv_iconst (v := 0) C.1 C.2.1 dX1_take_35 (by decide) ?_
      refine lv_goto (tgt := 45) C.1 C.2.1 dX1_take_36 (by decide) ?_
      exact bM_take_45 C Wd hf (lv_sub hl [2, 3] rfl)
  · replace hf := hf.2 hc
    refine lv_iload_n C.1 C.2.1 dX1_take_24 rfl (lv_at hl 0 rfl) ?_
    exact m_iret C Wd hf dX1_take_25
set_option maxHeartbeats 4000000 in
set_option maxRecDepth 100000 in
theorem cM_take (l : Launch) (D : va_G) (ad : MA) (v1 : Int32) : m_Mi l D yX1_take cX1_take 6 (some .int) { frames := 4, cells := 0, slots := 0, locals := 90 } ad [.ref (m_h ad), .int v1] (fun σ post => wM_take (m_lim ad) σ v1 post) := by
  refine m_ofi ⟨by decide, rfl, Nat.le_of_ble_eq_true rfl⟩ (fun {p e s m args below meth c σ A post ls} C Wd hf hl => ?_)
  replace hl : lv_has ls 6 [(0, .ref (m_h ad)), (1, .int v1)] := hl
  refine lv_iload_n C.1 C.2.1 dX1_take_0 rfl (lv_at hl 1 rfl) ?_
  refine lv_bipush (v := 16) C.1 C.2.1 dX1_take_1 (by decide) ?_
  refine lv_icmp_ge (tgt := 14) C.1 C.2.1 dX1_take_3 (by decide) (fun hc => ?_) (fun hc => ?_)
  · replace hf := hf.1 hc
    refine lv_aload_n C.1 C.2.1 dX1_take_14 rfl (lv_at hl 0 rfl) ?_
    refine lv_iload_n C.1 C.2.1 dX1_take_15 rfl (lv_at hl 1 rfl) ?_
    refine m_calliv (As := [.int v1]) (rest := []) C Wd (cM_takeLarge l D ad v1) sM_takeLarge (by decide) rfl hl.1 rfl (Nat.le_of_ble_eq_true rfl) (by decide) dX1_take_16 hf (fun r16 σ16 H locs hf Wd => ?_)
    exact bM_take_19 C Wd hf hl
  · replace hf := hf.2 hc
    refine lv_aload_n C.1 C.2.1 dX1_take_6 rfl (lv_at hl 0 rfl) ?_
    refine lv_iload_n C.1 C.2.1 dX1_take_7 rfl (lv_at hl 1 rfl) ?_
    refine m_calliv (As := [.int v1]) (rest := []) C Wd (cM_takeSmall l D ad v1) sM_takeSmall (by decide) rfl hl.1 rfl (Nat.le_of_ble_eq_true rfl) (by decide) dX1_take_8 hf (fun r8 σ8 H locs hf Wd => ?_)
    refine lv_goto (tgt := 19) C.1 C.2.1 dX1_take_11 (by decide) ?_
    exact bM_take_19 C Wd hf hl
set_option maxHeartbeats 4000000 in
set_option maxRecDepth 100000 in
theorem bM_give_119 {p : Program} {l : Launch} {e : Env} {s : State} {m : MethodId} {args : Array Value} {below : List Frame} {meth : Method} {c : Code} {D : va_G} {ad : MA} {A : Nat → Prop} (C : m_C p s m args meth c cX1_give 4 none) {post : MS → Prop} {σ : MS} {H : Heap} {locs : List Loc} {ls : Array Slot} {v2 : Int32} {v3 : Int32} {k0 : Int32} (Wd : m_W D ad σ A s H locs) (hf : wM_give_119 (m_lim ad) σ v2 v3 k0 post) (hl : lv_has ls 4 [(0, .ref (m_h ad)), (2, .int v2), (3, .int v3)]) : W p l e { frames := 1, cells := 0, slots := 0, locals := 22 } s m args below meth c H locs 0 0 (m_Qv below D ad A args s post) (F0 m 119 ls [.int k0, .ref (m_h ad)]) := by
  refine m_put_vi C Wd dX1_give_119 (fun H locs Wd => ?_)
  refine lv_aload_n C.1 C.2.1 dX1_give_122 rfl (lv_at hl 0 rfl) ?_
  refine m_get_fi C Wd dX1_give_123 ?_
  refine lv_iload_n C.1 C.2.1 dX1_give_126 rfl (lv_at hl 1 rfl) ?_
  refine m_ald_fi C Wd hf.1 dX1_give_127 ?_
  replace hf := hf.2
  refine lv_aload_n C.1 C.2.1 dX1_give_128 rfl (lv_at hl 0 rfl) ?_
  refine m_get_sz C Wd dX1_give_129 ?_
  refine lv_iload_n C.1 C.2.1 dX1_give_132 rfl (lv_at hl 1 rfl) ?_
  refine m_ald_sz C Wd hf.1 dX1_give_133 ?_
  replace hf := hf.2
  refine lv_iadd C.1 C.2.1 dX1_give_134 ?_
  refine lv_aload_n C.1 C.2.1 dX1_give_135 rfl (lv_at hl 0 rfl) ?_
  refine m_get_en C Wd dX1_give_136 ?_
  refine lv_icmp_eq (tgt := 164) C.1 C.2.1 dX1_give_139 (by decide) (fun hc => ?_) (fun hc => ?_)
  · replace hf := hf.1 hc
    exact m_vret C Wd hf dX1_give_164
  · replace hf := hf.2 hc
    refine lv_iload_n C.1 C.2.1 dX1_give_142 rfl (lv_at hl 2 rfl) ?_
    refine lv_if_eq (tgt := 159) C.1 C.2.1 dX1_give_143 (by decide) (fun hc => ?_) (fun hc => ?_)
    · replace hf := hf.1 hc
      refine lv_aload_n C.1 C.2.1 dX1_give_159 rfl (lv_at hl 0 rfl) ?_
      refine lv_iload_n C.1 C.2.1 dX1_give_160 rfl (lv_at hl 1 rfl) ?_
      refine m_callvv (As := [.int v2]) (rest := []) C Wd (cM_store l D ad v2) sM_store (by decide) rfl hl.1 rfl (Nat.le_of_ble_eq_true rfl) (by decide) dX1_give_161 hf (fun σ161 H locs hf Wd => ?_)
      exact m_vret C Wd hf dX1_give_164
    · replace hf := hf.2 hc
      refine lv_aload_n C.1 C.2.1 dX1_give_146 rfl (lv_at hl 0 rfl) ?_
      refine lv_aload_n C.1 C.2.1 dX1_give_147 rfl (lv_at hl 0 rfl) ?_
      refine m_get_fi C Wd dX1_give_148 ?_
      refine lv_iload_n C.1 C.2.1 dX1_give_151 rfl (lv_at hl 1 rfl) ?_
      refine m_ald_fi C Wd hf.1 dX1_give_152 ?_
      replace hf := hf.2
      refine m_put_vi C Wd dX1_give_153 (fun H locs Wd => ?_)
      refine lv_goto (tgt := 164) C.1 C.2.1 dX1_give_156 (by decide) ?_
      exact m_vret C Wd hf dX1_give_164
set_option maxHeartbeats 4000000 in
set_option maxRecDepth 100000 in
theorem bM_give_106 {p : Program} {l : Launch} {e : Env} {s : State} {m : MethodId} {args : Array Value} {below : List Frame} {meth : Method} {c : Code} {D : va_G} {ad : MA} {A : Nat → Prop} (C : m_C p s m args meth c cX1_give 4 none) {post : MS → Prop} {σ : MS} {H : Heap} {locs : List Loc} {ls : Array Slot} {v2 : Int32} {v3 : Int32} (Wd : m_W D ad σ A s H locs) (hf : wM_give_106 (m_lim ad) σ v2 v3 post) (hl : lv_has ls 4 [(0, .ref (m_h ad)), (2, .int v2), (3, .int v3)]) : W p l e { frames := 1, cells := 0, slots := 0, locals := 22 } s m args below meth c H locs 0 0 (m_Qv below D ad A args s post) (F0 m 106 ls []) := by
  refine lv_aload_n C.1 C.2.1 dX1_give_106 rfl (lv_at hl 0 rfl) ?_
  refine lv_iload_n C.1 C.2.1 dX1_give_107 rfl (lv_at hl 2 rfl) ?_
  refine lv_if_eq (tgt := 115) C.1 C.2.1 dX1_give_108 (by decide) (fun hc => ?_) (fun hc => ?_)
  · replace hf := hf.1 hc
    refine lv_aload_n C.1 C.2.1 dX1_give_115 rfl (lv_at hl 0 rfl) ?_
    refine m_get_vi C Wd dX1_give_116 ?_
    exact bM_give_119 C Wd hf hl
  · replace hf := hf.2 hc
    refine lv_iconst (v := (-1)) C.1 C.2.1 dX1_give_111 (by decide) ?_
    refine lv_goto (tgt := 119) C.1 C.2.1 dX1_give_112 (by decide) ?_
    exact bM_give_119 C Wd hf hl
set_option maxHeartbeats 4000000 in
set_option maxRecDepth 100000 in
theorem bM_give_97 {p : Program} {l : Launch} {e : Env} {s : State} {m : MethodId} {args : Array Value} {below : List Frame} {meth : Method} {c : Code} {D : va_G} {ad : MA} {A : Nat → Prop} (C : m_C p s m args meth c cX1_give 4 none) {post : MS → Prop} {σ : MS} {H : Heap} {locs : List Loc} {ls : Array Slot} {v2 : Int32} {k0 : Int32} (Wd : m_W D ad σ A s H locs) (hf : wM_give_97 (m_lim ad) σ v2 k0 post) (hl : lv_has ls 4 [(0, .ref (m_h ad)), (2, .int v2)]) : W p l e { frames := 1, cells := 0, slots := 0, locals := 22 } s m args below meth c H locs 0 0 (m_Qv below D ad A args s post) (F0 m 97 ls [.int k0]) := by
  refine lv_istore_n (lv' := [(3, .int k0), (0, .ref (m_h ad)), (2, .int v2)]) C.1 C.2.1 dX1_give_97 rfl hl (by decide) rfl (fun ls hl => ?_)
  refine lv_iinc (v := v2 + (-1)) (lv' := [(2, .int (v2 + (-1))), (3, .int k0), (0, .ref (m_h ad))]) C.1 C.2.1 dX1_give_98 hl (k := 2) rfl rfl (by decide) rfl (fun ls hl => ?_)
  refine lv_aload_n C.1 C.2.1 dX1_give_101 rfl (lv_at hl 2 rfl) ?_
  refine lv_iload_n C.1 C.2.1 dX1_give_102 rfl (lv_at hl 0 rfl) ?_
  refine m_callvv (As := [.int (v2 + (-1))]) (rest := []) C Wd (cM_join l D ad (v2 + (-1))) sM_join (by decide) rfl hl.1 rfl (Nat.le_of_ble_eq_true rfl) (by decide) dX1_give_103 hf (fun σ103 H locs hf Wd => ?_)
  exact bM_give_106 C Wd hf (lv_sub hl [2, 0, 1] rfl)
set_option maxHeartbeats 4000000 in
set_option maxRecDepth 100000 in
theorem bM_give_58 {p : Program} {l : Launch} {e : Env} {s : State} {m : MethodId} {args : Array Value} {below : List Frame} {meth : Method} {c : Code} {D : va_G} {ad : MA} {A : Nat → Prop} (C : m_C p s m args meth c cX1_give 4 none) {post : MS → Prop} {σ : MS} {H : Heap} {locs : List Loc} {ls : Array Slot} {v2 : Int32} {v3 : Int32} (Wd : m_W D ad σ A s H locs) (hf : wM_give_58 (m_lim ad) σ v2 v3 post) (hl : lv_has ls 4 [(0, .ref (m_h ad)), (2, .int v2), (3, .int v3)]) : W p l e { frames := 1, cells := 0, slots := 0, locals := 22 } s m args below meth c H locs 0 0 (m_Qv below D ad A args s post) (F0 m 58 ls []) := by
  refine lv_iload_n C.1 C.2.1 dX1_give_58 rfl (lv_at hl 1 rfl) ?_
  refine lv_if_le (tgt := 106) C.1 C.2.1 dX1_give_59 (by decide) (fun hc => ?_) (fun hc => ?_)
  · replace hf := hf.1 hc
    exact bM_give_106 C Wd hf hl
  · replace hf := hf.2 hc
    refine lv_aload_n C.1 C.2.1 dX1_give_62 rfl (lv_at hl 0 rfl) ?_
    refine m_get_us C Wd dX1_give_63 ?_
    refine lv_iload_n C.1 C.2.1 dX1_give_66 rfl (lv_at hl 1 rfl) ?_
    refine lv_iconst (v := 1) C.1 C.2.1 dX1_give_67 (by decide) ?_
    refine lv_isub C.1 C.2.1 dX1_give_68 ?_
    refine m_ald_us C Wd hf.1 dX1_give_69 ?_
    replace hf := hf.2
    refine lv_if_ne (tgt := 106) C.1 C.2.1 dX1_give_70 (by decide) (fun hc => ?_) (fun hc => ?_)
    · replace hf := hf.1 hc
      exact bM_give_106 C Wd hf hl
    · replace hf := hf.2 hc
      refine lv_iload_n C.1 C.2.1 dX1_give_73 rfl (lv_at hl 2 rfl) ?_
      refine lv_if_ne (tgt := 92) C.1 C.2.1 dX1_give_74 (by decide) (fun hc => ?_) (fun hc => ?_)
      · replace hf := hf.1 hc
        refine lv_iconst (v := 1) C.1 C.2.1 dX1_give_92 (by decide) ?_
        refine lv_goto (tgt := 97) C.1 C.2.1 dX1_give_93 (by decide) ?_
        exact bM_give_97 C Wd hf (lv_sub hl [0, 1] rfl)
      · replace hf := hf.2 hc
        refine lv_aload_n C.1 C.2.1 dX1_give_77 rfl (lv_at hl 0 rfl) ?_
        refine m_get_fi C Wd dX1_give_78 ?_
        refine lv_iload_n C.1 C.2.1 dX1_give_81 rfl (lv_at hl 1 rfl) ?_
        refine lv_iconst (v := 1) C.1 C.2.1 dX1_give_82 (by decide) ?_
        refine lv_isub C.1 C.2.1 dX1_give_83 ?_
        refine m_ald_fi C Wd hf.1 dX1_give_84 ?_
        replace hf := hf.2
        refine lv_aload_n C.1 C.2.1 dX1_give_85 rfl (lv_at hl 0 rfl) ?_
        refine m_get_vi C Wd dX1_give_86 ?_
        refine lv_icmp_ne (tgt := 96) C.1 C.2.1 dX1_give_89 (by decide) (fun hc => ?_) (fun hc => ?_)
        · replace hf := hf.1 hc
          refine lv_iconst (v := 0) C.1 C.2.1 dX1_give_96 (by decide) ?_
          exact bM_give_97 C Wd hf (lv_sub hl [0, 1] rfl)
        · replace hf := hf.2 hc
          refine lv_iconst (v := 1) C.1 C.2.1 dX1_give_92 (by decide) ?_
          refine lv_goto (tgt := 97) C.1 C.2.1 dX1_give_93 (by decide) ?_
          exact bM_give_97 C Wd hf (lv_sub hl [0, 1] rfl)
set_option maxHeartbeats 4000000 in
set_option maxRecDepth 100000 in
theorem bM_give_52 {p : Program} {l : Launch} {e : Env} {s : State} {m : MethodId} {args : Array Value} {below : List Frame} {meth : Method} {c : Code} {D : va_G} {ad : MA} {A : Nat → Prop} (C : m_C p s m args meth c cX1_give 4 none) {post : MS → Prop} {σ : MS} {H : Heap} {locs : List Loc} {ls : Array Slot} {v2 : Int32} {k0 : Int32} (Wd : m_W D ad σ A s H locs) (hf : wM_give_52 (m_lim ad) σ v2 k0 post) (hl : lv_has ls 4 [(0, .ref (m_h ad)), (2, .int v2)]) : W p l e { frames := 1, cells := 0, slots := 0, locals := 22 } s m args below meth c H locs 0 0 (m_Qv below D ad A args s post) (F0 m 52 ls [.int k0]) := by
  refine lv_istore_n (lv' := [(3, .int k0), (0, .ref (m_h ad)), (2, .int v2)]) C.1 C.2.1 dX1_give_52 rfl hl (by decide) rfl (fun ls hl => ?_)
  refine lv_aload_n C.1 C.2.1 dX1_give_53 rfl (lv_at hl 1 rfl) ?_
  refine lv_iload_n C.1 C.2.1 dX1_give_54 rfl (lv_at hl 2 rfl) ?_
  refine m_callvv (As := [.int v2]) (rest := []) C Wd (cM_join l D ad v2) sM_join (by decide) rfl hl.1 rfl (Nat.le_of_ble_eq_true rfl) (by decide) dX1_give_55 hf (fun σ55 H locs hf Wd => ?_)
  exact bM_give_58 C Wd hf (lv_sub hl [1, 2, 0] rfl)
set_option maxHeartbeats 4000000 in
set_option maxRecDepth 100000 in
theorem cM_give (l : Launch) (D : va_G) (ad : MA) (v1 : Int32) : m_Mv l D yX1_give cX1_give 4 none { frames := 1, cells := 0, slots := 0, locals := 22 } ad [.ref (m_h ad), .int v1] (fun σ post => wM_give (m_lim ad) σ v1 post) := by
  refine m_ofv ⟨by decide, rfl, Nat.le_of_ble_eq_true rfl⟩ (fun {p e s m args below meth c σ A post ls} C Wd hf hl => ?_)
  replace hl : lv_has ls 4 [(0, .ref (m_h ad)), (1, .int v1)] := hl
  refine lv_iload_n C.1 C.2.1 dX1_give_0 rfl (lv_at hl 1 rfl) ?_
  refine lv_istore_n (lv' := [(2, .int v1), (0, .ref (m_h ad)), (1, .int v1)]) C.1 C.2.1 dX1_give_1 rfl hl (by decide) rfl (fun ls hl => ?_)
  refine lv_aload_n C.1 C.2.1 dX1_give_2 rfl (lv_at hl 1 rfl) ?_
  refine m_get_us C Wd dX1_give_3 ?_
  refine lv_iload_n C.1 C.2.1 dX1_give_6 rfl (lv_at hl 0 rfl) ?_
  refine lv_iconst (v := 0) C.1 C.2.1 dX1_give_7 (by decide) ?_
  refine m_ast_us C Wd hf.1 rfl dX1_give_8 (fun H locs Wd => ?_)
  replace hf := hf.2
  refine lv_iconst (v := 0) C.1 C.2.1 dX1_give_9 (by decide) ?_
  refine lv_istore_n (lv' := [(3, .int 0), (2, .int v1), (0, .ref (m_h ad)), (1, .int v1)]) C.1 C.2.1 dX1_give_10 rfl hl (by decide) rfl (fun ls hl => ?_)
  refine lv_iload_n C.1 C.2.1 dX1_give_11 rfl (lv_at hl 1 rfl) ?_
  refine lv_iconst (v := 1) C.1 C.2.1 dX1_give_12 (by decide) ?_
  refine lv_iadd C.1 C.2.1 dX1_give_13 ?_
  refine lv_aload_n C.1 C.2.1 dX1_give_14 rfl (lv_at hl 2 rfl) ?_
  refine m_get_ch C Wd dX1_give_15 ?_
  refine lv_icmp_ge (tgt := 58) C.1 C.2.1 dX1_give_18 (by decide) (fun hc => ?_) (fun hc => ?_)
  · replace hf := hf.1 hc
    exact bM_give_58 C Wd hf (lv_sub hl [2, 1, 0] rfl)
  · replace hf := hf.2 hc
    refine lv_aload_n C.1 C.2.1 dX1_give_21 rfl (lv_at hl 2 rfl) ?_
    refine m_get_us C Wd dX1_give_22 ?_
    refine lv_iload_n C.1 C.2.1 dX1_give_25 rfl (lv_at hl 1 rfl) ?_
    refine lv_iconst (v := 1) C.1 C.2.1 dX1_give_26 (by decide) ?_
    refine lv_iadd C.1 C.2.1 dX1_give_27 ?_
    refine m_ald_us C Wd hf.1 dX1_give_28 ?_
    replace hf := hf.2
    refine lv_if_ne (tgt := 58) C.1 C.2.1 dX1_give_29 (by decide) (fun hc => ?_) (fun hc => ?_)
    · replace hf := hf.1 hc
      exact bM_give_58 C Wd hf (lv_sub hl [2, 1, 0] rfl)
    · replace hf := hf.2 hc
      refine lv_aload_n C.1 C.2.1 dX1_give_32 rfl (lv_at hl 2 rfl) ?_
      refine m_get_fi C Wd dX1_give_33 ?_
      refine lv_iload_n C.1 C.2.1 dX1_give_36 rfl (lv_at hl 1 rfl) ?_
      refine lv_iconst (v := 1) C.1 C.2.1 dX1_give_37 (by decide) ?_
      refine lv_iadd C.1 C.2.1 dX1_give_38 ?_
      refine m_ald_fi C Wd hf.1 dX1_give_39 ?_
      replace hf := hf.2
      refine lv_aload_n C.1 C.2.1 dX1_give_40 rfl (lv_at hl 2 rfl) ?_
      refine m_get_vi C Wd dX1_give_41 ?_
      refine lv_icmp_ne (tgt := 51) C.1 C.2.1 dX1_give_44 (by decide) (fun hc => ?_) (fun hc => ?_)
      · replace hf := hf.1 hc
        refine lv_iconst (v := 0) C.1 C.2.1 dX1_give_51 (by decide) ?_
        exact bM_give_52 C Wd hf (lv_sub hl [2, 1] rfl)
      · replace hf := hf.2 hc
        refine lv_iconst (v := 1) C.1 C.2.1 dX1_give_47 (by decide) ?_
        refine lv_goto (tgt := 52) C.1 C.2.1 dX1_give_48 (by decide) ?_
        exact bM_give_52 C Wd hf (lv_sub hl [2, 1] rfl)
set_option maxHeartbeats 4000000 in
set_option maxRecDepth 100000 in
theorem bM_malloc_22 {p : Program} {l : Launch} {e : Env} {s : State} {m : MethodId} {args : Array Value} {below : List Frame} {meth : Method} {c : Code} {D : va_G} {ad : MA} {A : Nat → Prop} (C : m_C p s m args meth c cX1_malloc 3 (some .int)) {post : Int32 → MS → Prop} {σ : MS} {H : Heap} {locs : List Loc} {ls : Array Slot} {k0 : Int32} (Wd : m_W D ad σ A s H locs) (hf : wM_malloc_22 (m_lim ad) σ k0 post) (hl : lv_has ls 3 [(0, .ref (m_h ad))]) : W p l e { frames := 5, cells := 0, slots := 0, locals := 115 } s m args below meth c H locs 0 0 (m_Qi below D ad A args s post) (F0 m 22 ls [.int k0, .ref (m_h ad)]) := by
  refine m_calliv (As := [.int k0]) (rest := []) C Wd (cM_take l D ad k0) sM_take (by decide) rfl hl.1 rfl (Nat.le_of_ble_eq_true rfl) (by decide) dX1_malloc_22 hf (fun r22 σ22 H locs hf Wd => ?_)
  refine lv_istore_n (lv' := [(2, .int r22), (0, .ref (m_h ad))]) C.1 C.2.1 dX1_malloc_25 rfl hl (by decide) rfl (fun ls hl => ?_)
  refine lv_iload_n C.1 C.2.1 dX1_malloc_26 rfl (lv_at hl 0 rfl) ?_
  refine lv_if_ge (tgt := 34) C.1 C.2.1 dX1_malloc_27 (by decide) (fun hc => ?_) (fun hc => ?_)
  · replace hf := hf.1 hc
    refine lv_aload_n C.1 C.2.1 dX1_malloc_34 rfl (lv_at hl 1 rfl) ?_
    refine m_get_fi C Wd dX1_malloc_35 ?_
    refine lv_iload_n C.1 C.2.1 dX1_malloc_38 rfl (lv_at hl 0 rfl) ?_
    refine m_ald_fi C Wd hf.1 dX1_malloc_39 ?_
    replace hf := hf.2
    refine lv_iconst (v := 1) C.1 C.2.1 dX1_malloc_40 (by decide) ?_
    refine lv_iadd C.1 C.2.1 dX1_malloc_41 ?_
    exact m_iret C Wd hf dX1_malloc_42
  · replace hf := hf.2 hc
    refine lv_iconst (v := 0) C.1 C.2.1 dX1_malloc_30 (by decide) ?_
    refine lv_goto (tgt := 42) C.1 C.2.1 dX1_malloc_31 (by decide) ?_
    exact m_iret C Wd hf dX1_malloc_42
set_option maxHeartbeats 4000000 in
set_option maxRecDepth 100000 in
theorem cM_malloc (l : Launch) (D : va_G) (ad : MA) (v1 : Int32) : m_Mi l D yX1_malloc cX1_malloc 3 (some .int) { frames := 5, cells := 0, slots := 0, locals := 115 } ad [.ref (m_h ad), .int v1] (fun σ post => wM_malloc (m_lim ad) σ v1 post) := by
  refine m_ofi ⟨by decide, rfl, Nat.le_of_ble_eq_true rfl⟩ (fun {p e s m args below meth c σ A post ls} C Wd hf hl => ?_)
  replace hl : lv_has ls 3 [(0, .ref (m_h ad)), (1, .int v1)] := hl
  refine lv_iload_n C.1 C.2.1 dX1_malloc_0 rfl (lv_at hl 1 rfl) ?_
  refine lv_sipush (v := 511) C.1 C.2.1 dX1_malloc_1 (by decide) ?_
  refine lv_icmp_le (tgt := 9) C.1 C.2.1 dX1_malloc_4 (by decide) (fun hc => ?_) (fun hc => ?_)
  · replace hf := hf.1 hc
    refine lv_aload_n C.1 C.2.1 dX1_malloc_9 rfl (lv_at hl 0 rfl) ?_
    refine lv_iload_n C.1 C.2.1 dX1_malloc_10 rfl (lv_at hl 1 rfl) ?_
    refine lv_iconst (v := 1) C.1 C.2.1 dX1_malloc_11 (by decide) ?_
    refine lv_icmp_ge (tgt := 19) C.1 C.2.1 dX1_malloc_12 (by decide) (fun hc => ?_) (fun hc => ?_)
    · replace hf := hf.1 hc
      refine lv_iload_n C.1 C.2.1 dX1_malloc_19 rfl (lv_at hl 1 rfl) ?_
      refine lv_iconst (v := 1) C.1 C.2.1 dX1_malloc_20 (by decide) ?_
      refine lv_iadd C.1 C.2.1 dX1_malloc_21 ?_
      exact bM_malloc_22 C Wd hf (lv_sub hl [0] rfl)
    · replace hf := hf.2 hc
      refine lv_iconst (v := 2) C.1 C.2.1 dX1_malloc_15 (by decide) ?_
      refine lv_goto (tgt := 22) C.1 C.2.1 dX1_malloc_16 (by decide) ?_
      exact bM_malloc_22 C Wd hf (lv_sub hl [0] rfl)
  · replace hf := hf.2 hc
    refine lv_iconst (v := 0) C.1 C.2.1 dX1_malloc_7 (by decide) ?_
    exact m_iret C Wd hf dX1_malloc_8
set_option maxHeartbeats 4000000 in
set_option maxRecDepth 100000 in
theorem bM_calloc_15_f {p : Program} {l : Launch} {e : Env} {s : State} {m : MethodId} {args : Array Value} {below : List Frame} {meth : Method} {c : Code} {D : va_G} {ad : MA} {A : Nat → Prop} (C : m_C p s m args meth c cX1_calloc 5 (some .int)) {post : Int32 → MS → Prop} : ∀ (f : Nat) (σ : MS) (H : Heap) (locs : List Loc) (ls : Array Slot) (v2 : Int32) (v3 : Int32) (v4 : Int32), m_W D ad σ A s H locs → wM_calloc_15 (m_lim ad) post f σ v2 v3 v4 → lv_has ls 5 [(0, .ref (m_h ad)), (2, .int v2), (3, .int v3), (4, .int v4)] → W p l e { frames := 6, cells := 0, slots := 0, locals := 137 } s m args below meth c H locs 0 0 (m_Qi below D ad A args s post) (F0 m 15 ls []) := by
  intro f
  induction f with
  | zero => intro σ H locs ls v2 v3 v4 Wd hf hl; exact False.elim hf
  | succ f ih =>
    intro σ H locs ls v2 v3 v4 Wd hf hl
    replace hf : wM_calloc_15_s (m_lim ad) post (wM_calloc_15 (m_lim ad) post f) σ v2 v3 v4 := hf
    refine lv_iload_n C.1 C.2.1 dX1_calloc_15 rfl (lv_at hl 2 rfl) ?_
    refine lv_if_lt (tgt := 51) C.1 C.2.1 dX1_calloc_16 (by decide) (fun hc => ?_) (fun hc => ?_)
    · replace hf := hf.1 hc
      refine lv_iload_n C.1 C.2.1 dX1_calloc_51 rfl (lv_at hl 1 rfl) ?_
      exact m_iret C Wd hf dX1_calloc_52
    · replace hf := hf.2 hc
      refine lv_iload C.1 C.2.1 dX1_calloc_19 (lv_at hl 3 rfl) ?_
      refine lv_aload_n C.1 C.2.1 dX1_calloc_21 rfl (lv_at hl 0 rfl) ?_
      refine m_get_fi C Wd dX1_calloc_22 ?_
      refine lv_iload_n C.1 C.2.1 dX1_calloc_25 rfl (lv_at hl 2 rfl) ?_
      refine m_ald_fi C Wd hf.1 dX1_calloc_26 ?_
      replace hf := hf.2
      refine lv_aload_n C.1 C.2.1 dX1_calloc_27 rfl (lv_at hl 0 rfl) ?_
      refine m_get_sz C Wd dX1_calloc_28 ?_
      refine lv_iload_n C.1 C.2.1 dX1_calloc_31 rfl (lv_at hl 2 rfl) ?_
      refine m_ald_sz C Wd hf.1 dX1_calloc_32 ?_
      replace hf := hf.2
      refine lv_iadd C.1 C.2.1 dX1_calloc_33 ?_
      refine lv_icmp_ge (tgt := 51) C.1 C.2.1 dX1_calloc_34 (by decide) (fun hc => ?_) (fun hc => ?_)
      · replace hf := hf.1 hc
        refine lv_iload_n C.1 C.2.1 dX1_calloc_51 rfl (lv_at hl 1 rfl) ?_
        exact m_iret C Wd hf dX1_calloc_52
      · replace hf := hf.2 hc
        refine lv_aload_n C.1 C.2.1 dX1_calloc_37 rfl (lv_at hl 0 rfl) ?_
        refine m_get_un C Wd dX1_calloc_38 ?_
        refine lv_iload C.1 C.2.1 dX1_calloc_41 (lv_at hl 3 rfl) ?_
        refine lv_iconst (v := 0) C.1 C.2.1 dX1_calloc_43 (by decide) ?_
        refine m_ast_un C Wd hf.1 dX1_calloc_44 (fun H locs Wd => ?_)
        replace hf := hf.2
        refine lv_iinc (v := v4 + 1) (lv' := [(4, .int (v4 + 1)), (0, .ref (m_h ad)), (2, .int v2), (3, .int v3)]) C.1 C.2.1 dX1_calloc_45 hl (k := 3) rfl rfl (by decide) rfl (fun ls hl => ?_)
        refine lv_goto (tgt := 15) C.1 C.2.1 dX1_calloc_48 (by decide) ?_
        exact ih _ _ _ _ _ _ _  Wd hf (lv_sub hl [1, 2, 3, 0] rfl)
theorem bM_calloc_15 {p : Program} {l : Launch} {e : Env} {s : State} {m : MethodId} {args : Array Value} {below : List Frame} {meth : Method} {c : Code} {D : va_G} {ad : MA} {A : Nat → Prop} (C : m_C p s m args meth c cX1_calloc 5 (some .int)) {post : Int32 → MS → Prop} {σ : MS} {H : Heap} {locs : List Loc} {ls : Array Slot} {v2 : Int32} {v3 : Int32} {v4 : Int32} (Wd : m_W D ad σ A s H locs) (hf : ∃ f : Nat, wM_calloc_15 (m_lim ad) post f σ v2 v3 v4) (hl : lv_has ls 5 [(0, .ref (m_h ad)), (2, .int v2), (3, .int v3), (4, .int v4)]) : W p l e { frames := 6, cells := 0, slots := 0, locals := 137 } s m args below meth c H locs 0 0 (m_Qi below D ad A args s post) (F0 m 15 ls []) := by
  obtain ⟨f, hf⟩ := hf
  exact bM_calloc_15_f C f σ H locs ls v2 v3 v4 Wd hf hl
set_option maxHeartbeats 4000000 in
set_option maxRecDepth 100000 in
theorem cM_calloc (l : Launch) (D : va_G) (ad : MA) (v1 : Int32) : m_Mi l D yX1_calloc cX1_calloc 5 (some .int) { frames := 6, cells := 0, slots := 0, locals := 137 } ad [.ref (m_h ad), .int v1] (fun σ post => wM_calloc (m_lim ad) σ v1 post) := by
  refine m_ofi ⟨by decide, rfl, Nat.le_of_ble_eq_true rfl⟩ (fun {p e s m args below meth c σ A post ls} C Wd hf hl => ?_)
  replace hl : lv_has ls 5 [(0, .ref (m_h ad)), (1, .int v1)] := hl
  refine lv_aload_n C.1 C.2.1 dX1_calloc_0 rfl (lv_at hl 0 rfl) ?_
  refine lv_iload_n C.1 C.2.1 dX1_calloc_1 rfl (lv_at hl 1 rfl) ?_
  refine m_calliv (As := [.int v1]) (rest := []) C Wd (cM_malloc l D ad v1) sM_malloc (by decide) rfl hl.1 rfl (Nat.le_of_ble_eq_true rfl) (by decide) dX1_calloc_2 hf (fun r2 σ2 H locs hf Wd => ?_)
  refine lv_istore_n (lv' := [(2, .int r2), (0, .ref (m_h ad)), (1, .int v1)]) C.1 C.2.1 dX1_calloc_5 rfl hl (by decide) rfl (fun ls hl => ?_)
  refine lv_aload_n C.1 C.2.1 dX1_calloc_6 rfl (lv_at hl 1 rfl) ?_
  refine lv_iload_n C.1 C.2.1 dX1_calloc_7 rfl (lv_at hl 0 rfl) ?_
  refine m_calliv (As := [.int r2]) (rest := []) C Wd (cM_holder l D ad r2) sM_holder (by decide) rfl hl.1 rfl (Nat.le_of_ble_eq_true rfl) (by decide) dX1_calloc_8 hf (fun r8 σ8 H locs hf Wd => ?_)
  refine lv_istore_n (lv' := [(3, .int r8), (2, .int r2), (0, .ref (m_h ad)), (1, .int v1)]) C.1 C.2.1 dX1_calloc_11 rfl hl (by decide) rfl (fun ls hl => ?_)
  refine lv_iload_n C.1 C.2.1 dX1_calloc_12 rfl (lv_at hl 1 rfl) ?_
  refine lv_istore (lv' := [(4, .int r2), (3, .int r8), (2, .int r2), (0, .ref (m_h ad)), (1, .int v1)]) C.1 C.2.1 dX1_calloc_13 hl (by decide) rfl (fun ls hl => ?_)
  exact bM_calloc_15 C Wd hf (lv_sub hl [3, 2, 1, 0] rfl)
set_option maxHeartbeats 4000000 in
set_option maxRecDepth 100000 in
theorem cM_free (l : Launch) (D : va_G) (ad : MA) (v1 : Int32) : m_Mi l D yX1_free cX1_free 3 (some .boolean) { frames := 2, cells := 0, slots := 0, locals := 45 } ad [.ref (m_h ad), .int v1] (fun σ post => wM_free (m_lim ad) σ v1 post) := by
  refine m_ofi ⟨by decide, rfl, Nat.le_of_ble_eq_true rfl⟩ (fun {p e s m args below meth c σ A post ls} C Wd hf hl => ?_)
  replace hl : lv_has ls 3 [(0, .ref (m_h ad)), (1, .int v1)] := hl
  refine lv_aload_n C.1 C.2.1 dX1_free_0 rfl (lv_at hl 0 rfl) ?_
  refine lv_iload_n C.1 C.2.1 dX1_free_1 rfl (lv_at hl 1 rfl) ?_
  refine m_calliv (As := [.int v1]) (rest := []) C Wd (cM_holder l D ad v1) sM_holder (by decide) rfl hl.1 rfl (Nat.le_of_ble_eq_true rfl) (by decide) dX1_free_2 hf (fun r2 σ2 H locs hf Wd => ?_)
  refine lv_istore_n (lv' := [(2, .int r2), (0, .ref (m_h ad)), (1, .int v1)]) C.1 C.2.1 dX1_free_5 rfl hl (by decide) rfl (fun ls hl => ?_)
  refine lv_iload_n C.1 C.2.1 dX1_free_6 rfl (lv_at hl 0 rfl) ?_
  refine lv_if_ge (tgt := 12) C.1 C.2.1 dX1_free_7 (by decide) (fun hc => ?_) (fun hc => ?_)
  · replace hf := hf.1 hc
    refine lv_aload_n C.1 C.2.1 dX1_free_12 rfl (lv_at hl 1 rfl) ?_
    refine lv_iload_n C.1 C.2.1 dX1_free_13 rfl (lv_at hl 0 rfl) ?_
    refine m_callvv (As := [.int r2]) (rest := []) C Wd (cM_give l D ad r2) sM_give (by decide) rfl hl.1 rfl (Nat.le_of_ble_eq_true rfl) (by decide) dX1_free_14 hf (fun σ14 H locs hf Wd => ?_)
    refine lv_iconst (v := 1) C.1 C.2.1 dX1_free_17 (by decide) ?_
    exact m_zret C Wd (by decide) hf dX1_free_18
  · replace hf := hf.2 hc
    refine lv_iconst (v := 0) C.1 C.2.1 dX1_free_10 (by decide) ?_
    exact m_zret C Wd (by decide) hf dX1_free_11
set_option maxHeartbeats 4000000 in
set_option maxRecDepth 100000 in
theorem cM_shorten (l : Launch) (D : va_G) (ad : MA) (v1 : Int32) (v2 : Int32) : m_Mv l D yX1_shorten cX1_shorten 3 none { frames := 2, cells := 0, slots := 0, locals := 45 } ad [.ref (m_h ad), .int v1, .int v2] (fun σ post => wM_shorten (m_lim ad) σ v1 v2 post) := by
  refine m_ofv ⟨by decide, rfl, Nat.le_of_ble_eq_true rfl⟩ (fun {p e s m args below meth c σ A post ls} C Wd hf hl => ?_)
  replace hl : lv_has ls 3 [(0, .ref (m_h ad)), (1, .int v1), (2, .int v2)] := hl
  refine lv_aload_n C.1 C.2.1 dX1_shorten_0 rfl (lv_at hl 0 rfl) ?_
  refine m_get_sz C Wd dX1_shorten_1 ?_
  refine lv_iload_n C.1 C.2.1 dX1_shorten_4 rfl (lv_at hl 1 rfl) ?_
  refine m_ald_sz C Wd hf.1 dX1_shorten_5 ?_
  replace hf := hf.2
  refine lv_iload_n C.1 C.2.1 dX1_shorten_6 rfl (lv_at hl 2 rfl) ?_
  refine lv_isub C.1 C.2.1 dX1_shorten_7 ?_
  refine lv_iconst (v := 2) C.1 C.2.1 dX1_shorten_8 (by decide) ?_
  refine lv_icmp_lt (tgt := 25) C.1 C.2.1 dX1_shorten_9 (by decide) (fun hc => ?_) (fun hc => ?_)
  · replace hf := hf.1 hc
    exact m_vret C Wd hf dX1_shorten_25
  · replace hf := hf.2 hc
    refine lv_aload_n C.1 C.2.1 dX1_shorten_12 rfl (lv_at hl 0 rfl) ?_
    refine lv_iload_n C.1 C.2.1 dX1_shorten_13 rfl (lv_at hl 1 rfl) ?_
    refine lv_iload_n C.1 C.2.1 dX1_shorten_14 rfl (lv_at hl 2 rfl) ?_
    refine m_callvv (As := [.int v1, .int v2]) (rest := []) C Wd (cM_part l D ad v1 v2) sM_part (by decide) rfl hl.1 rfl (Nat.le_of_ble_eq_true rfl) (by decide) dX1_shorten_15 hf (fun σ15 H locs hf Wd => ?_)
    refine lv_aload_n C.1 C.2.1 dX1_shorten_18 rfl (lv_at hl 0 rfl) ?_
    refine lv_iload_n C.1 C.2.1 dX1_shorten_19 rfl (lv_at hl 1 rfl) ?_
    refine lv_iconst (v := 1) C.1 C.2.1 dX1_shorten_20 (by decide) ?_
    refine lv_iadd C.1 C.2.1 dX1_shorten_21 ?_
    refine m_callvv (As := [.int (v1 + 1)]) (rest := []) C Wd (cM_give l D ad (v1 + 1)) sM_give (by decide) rfl hl.1 rfl (Nat.le_of_ble_eq_true rfl) (by decide) dX1_shorten_22 hf (fun σ22 H locs hf Wd => ?_)
    exact m_vret C Wd hf dX1_shorten_25
