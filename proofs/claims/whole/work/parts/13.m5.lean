set_option maxHeartbeats 4000000 in
set_option maxRecDepth 100000 in
theorem bM_lengthen_87 {p : Program} {l : Launch} {e : Env} {s : State} {m : MethodId} {args : Array Value} {below : List Frame} {meth : Method} {c : Code} {D : va_G} {ad : MA} {A : Nat → Prop} (C : m_C p s m args meth c cX1_lengthen 7 (some .boolean)) {post : Int32 → MS → Prop} {σ : MS} {H : Heap} {locs : List Loc} {ls : Array Slot} {v1 : Int32} {v2 : Int32} (Wd : m_W D ad σ A s H locs) (hf : wM_lengthen_87 (m_lim ad) σ v1 v2 post) (hl : lv_has ls 7 [(0, .ref (m_h ad)), (1, .int v1), (2, .int v2)]) : W p l e { frames := 2, cells := 0, slots := 0, locals := 45 } s m args below meth c H locs 0 0 (m_Qi below D ad A args s post) (F0 m 87 ls []) := by
  refine lv_iload_n C.1 C.2.1 dX1_lengthen_87 rfl (lv_at hl 1 rfl) ?_
  refine lv_iconst (v := 1) C.1 C.2.1 dX1_lengthen_88 (by decide) ?_
  refine lv_iadd C.1 C.2.1 dX1_lengthen_89 ?_
  refine lv_aload_n C.1 C.2.1 dX1_lengthen_90 rfl (lv_at hl 0 rfl) ?_
  refine m_get_ch C Wd dX1_lengthen_91 ?_
  refine lv_icmp_ge (tgt := 127) C.1 C.2.1 dX1_lengthen_94 (by decide) (fun hc => ?_) (fun hc => ?_)
  · replace hf := hf.1 hc
    refine lv_iconst (v := 0) C.1 C.2.1 dX1_lengthen_127 (by decide) ?_
    exact m_zret C Wd (by decide) hf dX1_lengthen_128
  · replace hf := hf.2 hc
    refine lv_aload_n C.1 C.2.1 dX1_lengthen_97 rfl (lv_at hl 0 rfl) ?_
    refine m_get_us C Wd dX1_lengthen_98 ?_
    refine lv_iload_n C.1 C.2.1 dX1_lengthen_101 rfl (lv_at hl 1 rfl) ?_
    refine lv_iconst (v := 1) C.1 C.2.1 dX1_lengthen_102 (by decide) ?_
    refine lv_iadd C.1 C.2.1 dX1_lengthen_103 ?_
    refine m_ald_us C Wd hf.1 dX1_lengthen_104 ?_
    replace hf := hf.2
    refine lv_if_ne (tgt := 127) C.1 C.2.1 dX1_lengthen_105 (by decide) (fun hc => ?_) (fun hc => ?_)
    · replace hf := hf.1 hc
      refine lv_iconst (v := 0) C.1 C.2.1 dX1_lengthen_127 (by decide) ?_
      exact m_zret C Wd (by decide) hf dX1_lengthen_128
    · replace hf := hf.2 hc
      refine lv_aload_n C.1 C.2.1 dX1_lengthen_108 rfl (lv_at hl 0 rfl) ?_
      refine m_get_sz C Wd dX1_lengthen_109 ?_
      refine lv_iload_n C.1 C.2.1 dX1_lengthen_112 rfl (lv_at hl 1 rfl) ?_
      refine m_ald_sz C Wd hf.1 dX1_lengthen_113 ?_
      replace hf := hf.2
      refine lv_aload_n C.1 C.2.1 dX1_lengthen_114 rfl (lv_at hl 0 rfl) ?_
      refine m_get_sz C Wd dX1_lengthen_115 ?_
      refine lv_iload_n C.1 C.2.1 dX1_lengthen_118 rfl (lv_at hl 1 rfl) ?_
      refine lv_iconst (v := 1) C.1 C.2.1 dX1_lengthen_119 (by decide) ?_
      refine lv_iadd C.1 C.2.1 dX1_lengthen_120 ?_
      refine m_ald_sz C Wd hf.1 dX1_lengthen_121 ?_
      replace hf := hf.2
      refine lv_iadd C.1 C.2.1 dX1_lengthen_122 ?_
      refine lv_iload_n C.1 C.2.1 dX1_lengthen_123 rfl (lv_at hl 2 rfl) ?_
      refine lv_icmp_ge (tgt := 129) C.1 C.2.1 dX1_lengthen_124 (by decide) (fun hc => ?_) (fun hc => ?_)
      · replace hf := hf.1 hc
        refine lv_aload_n C.1 C.2.1 dX1_lengthen_129 rfl (lv_at hl 0 rfl) ?_
        refine lv_iload_n C.1 C.2.1 dX1_lengthen_130 rfl (lv_at hl 1 rfl) ?_
        refine lv_iconst (v := 1) C.1 C.2.1 dX1_lengthen_131 (by decide) ?_
        refine lv_iadd C.1 C.2.1 dX1_lengthen_132 ?_
        refine m_calliv (As := [.int (v1 + 1)]) (rest := []) C Wd (cM_stateOf l D ad (v1 + 1)) sM_stateOf (by decide) rfl hl.1 rfl (Nat.le_of_ble_eq_true rfl) (by decide) dX1_lengthen_133 hf (fun r133 σ133 H locs hf Wd => ?_)
        refine lv_istore (lv' := [(5, .int r133), (0, .ref (m_h ad)), (1, .int v1), (2, .int v2)]) C.1 C.2.1 dX1_lengthen_136 hl (by decide) rfl (fun ls hl => ?_)
        refine lv_aload_n C.1 C.2.1 dX1_lengthen_138 rfl (lv_at hl 1 rfl) ?_
        refine lv_iload_n C.1 C.2.1 dX1_lengthen_139 rfl (lv_at hl 2 rfl) ?_
        refine m_callvv (As := [.int v1]) (rest := []) C Wd (cM_join l D ad v1) sM_join (by decide) rfl hl.1 rfl (Nat.le_of_ble_eq_true rfl) (by decide) dX1_lengthen_140 hf (fun σ140 H locs hf Wd => ?_)
        refine lv_aload_n C.1 C.2.1 dX1_lengthen_143 rfl (lv_at hl 1 rfl) ?_
        refine lv_iload_n C.1 C.2.1 dX1_lengthen_144 rfl (lv_at hl 2 rfl) ?_
        refine lv_iload_n C.1 C.2.1 dX1_lengthen_145 rfl (lv_at hl 3 rfl) ?_
        refine m_calliv (As := [.int v1, .int v2]) (rest := []) C Wd (cM_cut l D ad v1 v2) sM_cut (by decide) rfl hl.1 rfl (Nat.le_of_ble_eq_true rfl) (by decide) dX1_lengthen_146 hf (fun r146 σ146 H locs hf Wd => ?_)
        refine lv_istore (lv' := [(6, .int r146), (5, .int r133), (0, .ref (m_h ad)), (1, .int v1), (2, .int v2)]) C.1 C.2.1 dX1_lengthen_149 hl (by decide) rfl (fun ls hl => ?_)
        refine lv_iload C.1 C.2.1 dX1_lengthen_151 (lv_at hl 1 rfl) ?_
        refine lv_iconst (v := 3) C.1 C.2.1 dX1_lengthen_153 (by decide) ?_
        refine lv_icmp_ne (tgt := 181) C.1 C.2.1 dX1_lengthen_154 (by decide) (fun hc => ?_) (fun hc => ?_)
        · replace hf := hf.1 hc
          refine lv_iload C.1 C.2.1 dX1_lengthen_181 (lv_at hl 0 rfl) ?_
          refine lv_if_eq (tgt := 199) C.1 C.2.1 dX1_lengthen_183 (by decide) (fun hc => ?_) (fun hc => ?_)
          · replace hf := hf.1 hc
            refine lv_iconst (v := 1) C.1 C.2.1 dX1_lengthen_199 (by decide) ?_
            exact m_zret C Wd (by decide) hf dX1_lengthen_200
          · replace hf := hf.2 hc
            refine lv_iload C.1 C.2.1 dX1_lengthen_186 (lv_at hl 1 rfl) ?_
            refine lv_iconst (v := 4) C.1 C.2.1 dX1_lengthen_188 (by decide) ?_
            refine lv_icmp_eq (tgt := 199) C.1 C.2.1 dX1_lengthen_189 (by decide) (fun hc => ?_) (fun hc => ?_)
            · replace hf := hf.1 hc
              refine lv_iconst (v := 1) C.1 C.2.1 dX1_lengthen_199 (by decide) ?_
              exact m_zret C Wd (by decide) hf dX1_lengthen_200
            · replace hf := hf.2 hc
              refine lv_aload_n C.1 C.2.1 dX1_lengthen_192 rfl (lv_at hl 2 rfl) ?_
              refine lv_iload_n C.1 C.2.1 dX1_lengthen_193 rfl (lv_at hl 3 rfl) ?_
              refine lv_iconst (v := 1) C.1 C.2.1 dX1_lengthen_194 (by decide) ?_
              refine lv_iadd C.1 C.2.1 dX1_lengthen_195 ?_
              refine m_callvv (As := [.int (v1 + 1)]) (rest := []) C Wd (cM_store l D ad (v1 + 1)) sM_store (by decide) rfl hl.1 rfl (Nat.le_of_ble_eq_true rfl) (by decide) dX1_lengthen_196 hf (fun σ196 H locs hf Wd => ?_)
              refine lv_iconst (v := 1) C.1 C.2.1 dX1_lengthen_199 (by decide) ?_
              exact m_zret C Wd (by decide) hf dX1_lengthen_200
        · replace hf := hf.2 hc
          refine lv_aload_n C.1 C.2.1 dX1_lengthen_157 rfl (lv_at hl 2 rfl) ?_
          refine lv_iload C.1 C.2.1 dX1_lengthen_158 (lv_at hl 0 rfl) ?_
          refine lv_if_eq (tgt := 174) C.1 C.2.1 dX1_lengthen_160 (by decide) (fun hc => ?_) (fun hc => ?_)
          · replace hf := hf.1 hc
            refine lv_iconst (v := (-1)) C.1 C.2.1 dX1_lengthen_174 (by decide) ?_
            refine m_put_vi C Wd dX1_lengthen_175 (fun H locs Wd => ?_)
            refine lv_goto (tgt := 199) C.1 C.2.1 dX1_lengthen_178 (by decide) ?_
            refine lv_iconst (v := 1) C.1 C.2.1 dX1_lengthen_199 (by decide) ?_
            exact m_zret C Wd (by decide) hf dX1_lengthen_200
          · replace hf := hf.2 hc
            refine lv_aload_n C.1 C.2.1 dX1_lengthen_163 rfl (lv_at hl 2 rfl) ?_
            refine m_get_fi C Wd dX1_lengthen_164 ?_
            refine lv_iload_n C.1 C.2.1 dX1_lengthen_167 rfl (lv_at hl 3 rfl) ?_
            refine lv_iconst (v := 1) C.1 C.2.1 dX1_lengthen_168 (by decide) ?_
            refine lv_iadd C.1 C.2.1 dX1_lengthen_169 ?_
            refine m_ald_fi C Wd hf.1 dX1_lengthen_170 ?_
            replace hf := hf.2
            refine lv_goto (tgt := 175) C.1 C.2.1 dX1_lengthen_171 (by decide) ?_
            refine m_put_vi C Wd dX1_lengthen_175 (fun H locs Wd => ?_)
            refine lv_goto (tgt := 199) C.1 C.2.1 dX1_lengthen_178 (by decide) ?_
            refine lv_iconst (v := 1) C.1 C.2.1 dX1_lengthen_199 (by decide) ?_
            exact m_zret C Wd (by decide) hf dX1_lengthen_200
      · replace hf := hf.2 hc
        refine lv_iconst (v := 0) C.1 C.2.1 dX1_lengthen_127 (by decide) ?_
        exact m_zret C Wd (by decide) hf dX1_lengthen_128
set_option maxHeartbeats 4000000 in
set_option maxRecDepth 100000 in
theorem bM_lengthen_61 {p : Program} {l : Launch} {e : Env} {s : State} {m : MethodId} {args : Array Value} {below : List Frame} {meth : Method} {c : Code} {D : va_G} {ad : MA} {A : Nat → Prop} (C : m_C p s m args meth c cX1_lengthen 7 (some .boolean)) {post : Int32 → MS → Prop} {σ : MS} {H : Heap} {locs : List Loc} {ls : Array Slot} {v1 : Int32} {v2 : Int32} {k0 : Int32} (Wd : m_W D ad σ A s H locs) (hf : wM_lengthen_61 (m_lim ad) σ v1 v2 k0 post) (hl : lv_has ls 7 [(0, .ref (m_h ad)), (1, .int v1), (2, .int v2)]) : W p l e { frames := 2, cells := 0, slots := 0, locals := 45 } s m args below meth c H locs 0 0 (m_Qi below D ad A args s post) (F0 m 61 ls [.int k0]) := by
  refine lv_istore (lv' := [(5, .int k0), (0, .ref (m_h ad)), (1, .int v1), (2, .int v2)]) C.1 C.2.1 dX1_lengthen_61 hl (by decide) rfl (fun ls hl => ?_)
  refine lv_iload C.1 C.2.1 dX1_lengthen_63 (lv_at hl 0 rfl) ?_
  refine lv_iload_n C.1 C.2.1 dX1_lengthen_65 rfl (lv_at hl 3 rfl) ?_
  refine lv_icmp_ge (tgt := 80) C.1 C.2.1 dX1_lengthen_66 (by decide) (fun hc => ?_) (fun hc => ?_)
  · replace hf := hf.1 hc
    refine lv_iconst (v := 1) C.1 C.2.1 dX1_lengthen_80 (by decide) ?_
    refine lv_goto (tgt := 85) C.1 C.2.1 dX1_lengthen_81 (by decide) ?_
    refine lv_istore (lv' := [(6, .int 1), (5, .int k0), (0, .ref (m_h ad)), (1, .int v1), (2, .int v2)]) C.1 C.2.1 dX1_lengthen_85 hl (by decide) rfl (fun ls hl => ?_)
    exact bM_lengthen_87 C Wd hf (lv_sub hl [2, 3, 4] rfl)
  · replace hf := hf.2 hc
    refine lv_aload_n C.1 C.2.1 dX1_lengthen_69 rfl (lv_at hl 1 rfl) ?_
    refine lv_iload_n C.1 C.2.1 dX1_lengthen_70 rfl (lv_at hl 3 rfl) ?_
    refine lv_iload C.1 C.2.1 dX1_lengthen_71 (lv_at hl 0 rfl) ?_
    refine lv_isub C.1 C.2.1 dX1_lengthen_73 ?_
    refine m_calliv (As := [.int (v2 - k0)]) (rest := []) C Wd (cM_grow l D ad (v2 - k0)) sM_grow (by decide) rfl hl.1 rfl (Nat.le_of_ble_eq_true rfl) (by decide) dX1_lengthen_74 hf (fun r74 σ74 H locs hf Wd => ?_)
    refine lv_if_eq (tgt := 84) C.1 C.2.1 dX1_lengthen_77 (by decide) (fun hc => ?_) (fun hc => ?_)
    · replace hf := hf.1 hc
      refine lv_iconst (v := 0) C.1 C.2.1 dX1_lengthen_84 (by decide) ?_
      refine lv_istore (lv' := [(6, .int 0), (5, .int k0), (0, .ref (m_h ad)), (1, .int v1), (2, .int v2)]) C.1 C.2.1 dX1_lengthen_85 hl (by decide) rfl (fun ls hl => ?_)
      exact bM_lengthen_87 C Wd hf (lv_sub hl [2, 3, 4] rfl)
    · replace hf := hf.2 hc
      refine lv_iconst (v := 1) C.1 C.2.1 dX1_lengthen_80 (by decide) ?_
      refine lv_goto (tgt := 85) C.1 C.2.1 dX1_lengthen_81 (by decide) ?_
      refine lv_istore (lv' := [(6, .int 1), (5, .int k0), (0, .ref (m_h ad)), (1, .int v1), (2, .int v2)]) C.1 C.2.1 dX1_lengthen_85 hl (by decide) rfl (fun ls hl => ?_)
      exact bM_lengthen_87 C Wd hf (lv_sub hl [2, 3, 4] rfl)
set_option maxHeartbeats 4000000 in
set_option maxRecDepth 100000 in
theorem bM_lengthen_34 {p : Program} {l : Launch} {e : Env} {s : State} {m : MethodId} {args : Array Value} {below : List Frame} {meth : Method} {c : Code} {D : va_G} {ad : MA} {A : Nat → Prop} (C : m_C p s m args meth c cX1_lengthen 7 (some .boolean)) {post : Int32 → MS → Prop} {σ : MS} {H : Heap} {locs : List Loc} {ls : Array Slot} {v1 : Int32} {v2 : Int32} {v3 : Int32} {v4 : Int32} (Wd : m_W D ad σ A s H locs) (hf : wM_lengthen_34 (m_lim ad) σ v1 v2 v3 v4 post) (hl : lv_has ls 7 [(0, .ref (m_h ad)), (1, .int v1), (2, .int v2), (3, .int v3), (4, .int v4)]) : W p l e { frames := 2, cells := 0, slots := 0, locals := 45 } s m args below meth c H locs 0 0 (m_Qi below D ad A args s post) (F0 m 34 ls []) := by
  refine lv_iload C.1 C.2.1 dX1_lengthen_34 (lv_at hl 4 rfl) ?_
  refine lv_if_eq (tgt := 48) C.1 C.2.1 dX1_lengthen_36 (by decide) (fun hc => ?_) (fun hc => ?_)
  · replace hf := hf.1 hc
    refine lv_aload_n C.1 C.2.1 dX1_lengthen_48 rfl (lv_at hl 0 rfl) ?_
    refine m_get_sz C Wd dX1_lengthen_49 ?_
    refine lv_iload_n C.1 C.2.1 dX1_lengthen_52 rfl (lv_at hl 1 rfl) ?_
    refine m_ald_sz C Wd hf.1 dX1_lengthen_53 ?_
    replace hf := hf.2
    refine lv_aload_n C.1 C.2.1 dX1_lengthen_54 rfl (lv_at hl 0 rfl) ?_
    refine m_get_sz C Wd dX1_lengthen_55 ?_
    refine lv_iload_n C.1 C.2.1 dX1_lengthen_58 rfl (lv_at hl 3 rfl) ?_
    refine m_ald_sz C Wd hf.1 dX1_lengthen_59 ?_
    replace hf := hf.2
    refine lv_iadd C.1 C.2.1 dX1_lengthen_60 ?_
    exact bM_lengthen_61 C Wd hf (lv_sub hl [0, 1, 2] rfl)
  · replace hf := hf.2 hc
    refine lv_aload_n C.1 C.2.1 dX1_lengthen_39 rfl (lv_at hl 0 rfl) ?_
    refine m_get_sz C Wd dX1_lengthen_40 ?_
    refine lv_iload_n C.1 C.2.1 dX1_lengthen_43 rfl (lv_at hl 1 rfl) ?_
    refine m_ald_sz C Wd hf.1 dX1_lengthen_44 ?_
    replace hf := hf.2
    refine lv_goto (tgt := 61) C.1 C.2.1 dX1_lengthen_45 (by decide) ?_
    exact bM_lengthen_61 C Wd hf (lv_sub hl [0, 1, 2] rfl)
set_option maxHeartbeats 4000000 in
set_option maxRecDepth 100000 in
theorem bM_lengthen_20 {p : Program} {l : Launch} {e : Env} {s : State} {m : MethodId} {args : Array Value} {below : List Frame} {meth : Method} {c : Code} {D : va_G} {ad : MA} {A : Nat → Prop} (C : m_C p s m args meth c cX1_lengthen 7 (some .boolean)) {post : Int32 → MS → Prop} {σ : MS} {H : Heap} {locs : List Loc} {ls : Array Slot} {v1 : Int32} {v2 : Int32} {v3 : Int32} {k0 : Int32} (Wd : m_W D ad σ A s H locs) (hf : wM_lengthen_20 (m_lim ad) σ v1 v2 v3 k0 post) (hl : lv_has ls 7 [(0, .ref (m_h ad)), (1, .int v1), (2, .int v2), (3, .int v3)]) : W p l e { frames := 2, cells := 0, slots := 0, locals := 45 } s m args below meth c H locs 0 0 (m_Qi below D ad A args s post) (F0 m 20 ls [.int k0]) := by
  refine lv_istore (lv' := [(4, .int k0), (0, .ref (m_h ad)), (1, .int v1), (2, .int v2), (3, .int v3)]) C.1 C.2.1 dX1_lengthen_20 hl (by decide) rfl (fun ls hl => ?_)
  refine lv_iload C.1 C.2.1 dX1_lengthen_22 (lv_at hl 0 rfl) ?_
  refine lv_if_ne (tgt := 34) C.1 C.2.1 dX1_lengthen_24 (by decide) (fun hc => ?_) (fun hc => ?_)
  · replace hf := hf.1 hc
    exact bM_lengthen_34 C Wd hf (lv_sub hl [1, 2, 3, 4, 0] rfl)
  · replace hf := hf.2 hc
    refine lv_iload_n C.1 C.2.1 dX1_lengthen_27 rfl (lv_at hl 4 rfl) ?_
    refine lv_iload_n C.1 C.2.1 dX1_lengthen_28 rfl (lv_at hl 2 rfl) ?_
    refine lv_iconst (v := 1) C.1 C.2.1 dX1_lengthen_29 (by decide) ?_
    refine lv_iadd C.1 C.2.1 dX1_lengthen_30 ?_
    refine lv_icmp_ne (tgt := 87) C.1 C.2.1 dX1_lengthen_31 (by decide) (fun hc => ?_) (fun hc => ?_)
    · replace hf := hf.1 hc
      exact bM_lengthen_87 C Wd hf (lv_sub hl [1, 2, 3] rfl)
    · replace hf := hf.2 hc
      exact bM_lengthen_34 C Wd hf (lv_sub hl [1, 2, 3, 4, 0] rfl)
set_option maxHeartbeats 4000000 in
set_option maxRecDepth 100000 in
theorem cM_lengthen (l : Launch) (D : va_G) (ad : MA) (v1 : Int32) (v2 : Int32) : m_Mi l D yX1_lengthen cX1_lengthen 7 (some .boolean) { frames := 2, cells := 0, slots := 0, locals := 45 } ad [.ref (m_h ad), .int v1, .int v2] (fun σ post => wM_lengthen (m_lim ad) σ v1 v2 post) := by
  refine m_ofi ⟨by decide, rfl, Nat.le_of_ble_eq_true rfl⟩ (fun {p e s m args below meth c σ A post ls} C Wd hf hl => ?_)
  replace hl : lv_has ls 7 [(0, .ref (m_h ad)), (1, .int v1), (2, .int v2)] := hl
  refine lv_aload_n C.1 C.2.1 dX1_lengthen_0 rfl (lv_at hl 0 rfl) ?_
  refine m_calliv (As := []) (rest := []) C Wd (cM_top l D ad ) sM_top (by decide) rfl hl.1 rfl (Nat.le_of_ble_eq_true rfl) (by decide) dX1_lengthen_1 hf (fun r1 σ1 H locs hf Wd => ?_)
  refine lv_istore_n (lv' := [(3, .int r1), (0, .ref (m_h ad)), (1, .int v1), (2, .int v2)]) C.1 C.2.1 dX1_lengthen_4 rfl hl (by decide) rfl (fun ls hl => ?_)
  refine lv_iload_n C.1 C.2.1 dX1_lengthen_5 rfl (lv_at hl 2 rfl) ?_
  refine lv_aload_n C.1 C.2.1 dX1_lengthen_6 rfl (lv_at hl 1 rfl) ?_
  refine m_get_ch C Wd dX1_lengthen_7 ?_
  refine lv_iconst (v := 1) C.1 C.2.1 dX1_lengthen_10 (by decide) ?_
  refine lv_isub C.1 C.2.1 dX1_lengthen_11 ?_
  refine lv_icmp_ne (tgt := 19) C.1 C.2.1 dX1_lengthen_12 (by decide) (fun hc => ?_) (fun hc => ?_)
  · replace hf := hf.1 hc
    refine lv_iconst (v := 0) C.1 C.2.1 dX1_lengthen_19 (by decide) ?_
    exact bM_lengthen_20 C Wd hf (lv_sub hl [1, 2, 3, 0] rfl)
  · replace hf := hf.2 hc
    refine lv_iconst (v := 1) C.1 C.2.1 dX1_lengthen_15 (by decide) ?_
    refine lv_goto (tgt := 20) C.1 C.2.1 dX1_lengthen_16 (by decide) ?_
    exact bM_lengthen_20 C Wd hf (lv_sub hl [1, 2, 3, 0] rfl)
set_option maxHeartbeats 4000000 in
set_option maxRecDepth 100000 in
theorem bM_moveTo_73 {p : Program} {l : Launch} {e : Env} {s : State} {m : MethodId} {args : Array Value} {below : List Frame} {meth : Method} {c : Code} {D : va_G} {ad : MA} {A : Nat → Prop} (C : m_C p s m args meth c cX1_moveTo 7 (some .int)) {post : Int32 → MS → Prop} {σ : MS} {H : Heap} {locs : List Loc} {ls : Array Slot} {v4 : Int32} {v5 : Int32} (Wd : m_W D ad σ A s H locs) (hf : wM_moveTo_73 (m_lim ad) σ v4 v5 post) (hl : lv_has ls 7 [(0, .ref (m_h ad)), (4, .int v4), (5, .int v5)]) : W p l e { frames := 5, cells := 0, slots := 0, locals := 115 } s m args below meth c H locs 0 0 (m_Qi below D ad A args s post) (F0 m 73 ls []) := by
  refine lv_aload_n C.1 C.2.1 dX1_moveTo_73 rfl (lv_at hl 0 rfl) ?_
  refine lv_iload C.1 C.2.1 dX1_moveTo_74 (lv_at hl 2 rfl) ?_
  refine m_callvv (As := [.int v5]) (rest := []) C Wd (cM_give l D ad v5) sM_give (by decide) rfl hl.1 rfl (Nat.le_of_ble_eq_true rfl) (by decide) dX1_moveTo_76 hf (fun σ76 H locs hf Wd => ?_)
  refine lv_iload C.1 C.2.1 dX1_moveTo_79 (lv_at hl 1 rfl) ?_
  exact m_iret C Wd hf dX1_moveTo_81
set_option maxHeartbeats 4000000 in
set_option maxRecDepth 100000 in
theorem bM_moveTo_34_f {p : Program} {l : Launch} {e : Env} {s : State} {m : MethodId} {args : Array Value} {below : List Frame} {meth : Method} {c : Code} {D : va_G} {ad : MA} {A : Nat → Prop} (C : m_C p s m args meth c cX1_moveTo 7 (some .int)) {post : Int32 → MS → Prop} : ∀ (f : Nat) (σ : MS) (H : Heap) (locs : List Loc) (ls : Array Slot) (v1 : Int32) (v4 : Int32) (v5 : Int32) (v6 : Int32), m_W D ad σ A s H locs → wM_moveTo_34 (m_lim ad) post f σ v1 v4 v5 v6 → lv_has ls 7 [(0, .ref (m_h ad)), (1, .int v1), (4, .int v4), (5, .int v5), (6, .int v6)] → W p l e { frames := 5, cells := 0, slots := 0, locals := 115 } s m args below meth c H locs 0 0 (m_Qi below D ad A args s post) (F0 m 34 ls []) := by
  intro f
  induction f with
  | zero => intro σ H locs ls v1 v4 v5 v6 Wd hf hl; exact False.elim hf
  | succ f ih =>
    intro σ H locs ls v1 v4 v5 v6 Wd hf hl
    replace hf : wM_moveTo_34_s (m_lim ad) post (wM_moveTo_34 (m_lim ad) post f) σ v1 v4 v5 v6 := hf
    refine lv_iload C.1 C.2.1 dX1_moveTo_34 (lv_at hl 4 rfl) ?_
    refine lv_aload_n C.1 C.2.1 dX1_moveTo_36 rfl (lv_at hl 0 rfl) ?_
    refine m_get_sz C Wd dX1_moveTo_37 ?_
    refine lv_iload C.1 C.2.1 dX1_moveTo_40 (lv_at hl 3 rfl) ?_
    refine m_ald_sz C Wd hf.1 dX1_moveTo_42 ?_
    replace hf := hf.2
    refine lv_iconst (v := 1) C.1 C.2.1 dX1_moveTo_43 (by decide) ?_
    refine lv_isub C.1 C.2.1 dX1_moveTo_44 ?_
    refine lv_icmp_ge (tgt := 73) C.1 C.2.1 dX1_moveTo_45 (by decide) (fun hc => ?_) (fun hc => ?_)
    · replace hf := hf.1 hc
      exact bM_moveTo_73 C Wd hf (lv_sub hl [0, 2, 3] rfl)
    · replace hf := hf.2 hc
      refine lv_aload_n C.1 C.2.1 dX1_moveTo_48 rfl (lv_at hl 0 rfl) ?_
      refine m_get_un C Wd dX1_moveTo_49 ?_
      refine lv_iload C.1 C.2.1 dX1_moveTo_52 (lv_at hl 2 rfl) ?_
      refine lv_iload C.1 C.2.1 dX1_moveTo_54 (lv_at hl 4 rfl) ?_
      refine lv_iadd C.1 C.2.1 dX1_moveTo_56 ?_
      refine lv_aload_n C.1 C.2.1 dX1_moveTo_57 rfl (lv_at hl 0 rfl) ?_
      refine m_get_un C Wd dX1_moveTo_58 ?_
      refine lv_iload_n C.1 C.2.1 dX1_moveTo_61 rfl (lv_at hl 1 rfl) ?_
      refine lv_iload C.1 C.2.1 dX1_moveTo_62 (lv_at hl 4 rfl) ?_
      refine lv_iadd C.1 C.2.1 dX1_moveTo_64 ?_
      refine m_ald_un C Wd hf.1 dX1_moveTo_65 ?_
      replace hf := hf.2
      refine m_ast_un C Wd hf.1 dX1_moveTo_66 (fun H locs Wd => ?_)
      replace hf := hf.2
      refine lv_iinc (v := v6 + 1) (lv' := [(6, .int (v6 + 1)), (0, .ref (m_h ad)), (1, .int v1), (4, .int v4), (5, .int v5)]) C.1 C.2.1 dX1_moveTo_67 hl (k := 4) rfl rfl (by decide) rfl (fun ls hl => ?_)
      refine lv_goto (tgt := 34) C.1 C.2.1 dX1_moveTo_70 (by decide) ?_
      exact ih _ _ _ _ _ _ _ _  Wd hf (lv_sub hl [1, 2, 3, 4, 0] rfl)
theorem bM_moveTo_34 {p : Program} {l : Launch} {e : Env} {s : State} {m : MethodId} {args : Array Value} {below : List Frame} {meth : Method} {c : Code} {D : va_G} {ad : MA} {A : Nat → Prop} (C : m_C p s m args meth c cX1_moveTo 7 (some .int)) {post : Int32 → MS → Prop} {σ : MS} {H : Heap} {locs : List Loc} {ls : Array Slot} {v1 : Int32} {v4 : Int32} {v5 : Int32} {v6 : Int32} (Wd : m_W D ad σ A s H locs) (hf : ∃ f : Nat, wM_moveTo_34 (m_lim ad) post f σ v1 v4 v5 v6) (hl : lv_has ls 7 [(0, .ref (m_h ad)), (1, .int v1), (4, .int v4), (5, .int v5), (6, .int v6)]) : W p l e { frames := 5, cells := 0, slots := 0, locals := 115 } s m args below meth c H locs 0 0 (m_Qi below D ad A args s post) (F0 m 34 ls []) := by
  obtain ⟨f, hf⟩ := hf
  exact bM_moveTo_34_f C f σ H locs ls v1 v4 v5 v6 Wd hf hl
set_option maxHeartbeats 4000000 in
set_option maxRecDepth 100000 in
theorem cM_moveTo (l : Launch) (D : va_G) (ad : MA) (v1 : Int32) (v2 : Int32) : m_Mi l D yX1_moveTo cX1_moveTo 7 (some .int) { frames := 5, cells := 0, slots := 0, locals := 115 } ad [.ref (m_h ad), .int v1, .int v2] (fun σ post => wM_moveTo (m_lim ad) σ v1 v2 post) := by
  refine m_ofi ⟨by decide, rfl, Nat.le_of_ble_eq_true rfl⟩ (fun {p e s m args below meth c σ A post ls} C Wd hf hl => ?_)
  replace hl : lv_has ls 7 [(0, .ref (m_h ad)), (1, .int v1), (2, .int v2)] := hl
  refine lv_aload_n C.1 C.2.1 dX1_moveTo_0 rfl (lv_at hl 0 rfl) ?_
  refine lv_iload_n C.1 C.2.1 dX1_moveTo_1 rfl (lv_at hl 2 rfl) ?_
  refine m_calliv (As := [.int v2]) (rest := []) C Wd (cM_take l D ad v2) sM_take (by decide) rfl hl.1 rfl (Nat.le_of_ble_eq_true rfl) (by decide) dX1_moveTo_2 hf (fun r2 σ2 H locs hf Wd => ?_)
  refine lv_istore_n (lv' := [(3, .int r2), (0, .ref (m_h ad)), (1, .int v1), (2, .int v2)]) C.1 C.2.1 dX1_moveTo_5 rfl hl (by decide) rfl (fun ls hl => ?_)
  refine lv_iload_n C.1 C.2.1 dX1_moveTo_6 rfl (lv_at hl 0 rfl) ?_
  refine lv_if_ge (tgt := 12) C.1 C.2.1 dX1_moveTo_7 (by decide) (fun hc => ?_) (fun hc => ?_)
  · replace hf := hf.1 hc
    refine lv_aload_n C.1 C.2.1 dX1_moveTo_12 rfl (lv_at hl 1 rfl) ?_
    refine m_get_fi C Wd dX1_moveTo_13 ?_
    refine lv_iload_n C.1 C.2.1 dX1_moveTo_16 rfl (lv_at hl 0 rfl) ?_
    refine m_ald_fi C Wd hf.1 dX1_moveTo_17 ?_
    replace hf := hf.2
    refine lv_iconst (v := 1) C.1 C.2.1 dX1_moveTo_18 (by decide) ?_
    refine lv_iadd C.1 C.2.1 dX1_moveTo_19 ?_
    refine lv_istore (lv' := [(4, .int ((m_fi σ2 r2.toNatClampNeg) + 1)), (3, .int r2), (0, .ref (m_h ad)), (1, .int v1), (2, .int v2)]) C.1 C.2.1 dX1_moveTo_20 hl (by decide) rfl (fun ls hl => ?_)
    refine lv_aload_n C.1 C.2.1 dX1_moveTo_22 rfl (lv_at hl 2 rfl) ?_
    refine lv_iload_n C.1 C.2.1 dX1_moveTo_23 rfl (lv_at hl 3 rfl) ?_
    refine lv_iconst (v := 1) C.1 C.2.1 dX1_moveTo_24 (by decide) ?_
    refine lv_isub C.1 C.2.1 dX1_moveTo_25 ?_
    refine m_calliv (As := [.int (v1 - 1)]) (rest := []) C Wd (cM_at l D ad (v1 - 1)) sM_at (by decide) rfl hl.1 rfl (Nat.le_of_ble_eq_true rfl) (by decide) dX1_moveTo_26 hf (fun r26 σ26 H locs hf Wd => ?_)
    refine lv_istore (lv' := [(5, .int r26), (4, .int ((m_fi σ2 r2.toNatClampNeg) + 1)), (3, .int r2), (0, .ref (m_h ad)), (1, .int v1), (2, .int v2)]) C.1 C.2.1 dX1_moveTo_29 hl (by decide) rfl (fun ls hl => ?_)
    refine lv_iconst (v := 0) C.1 C.2.1 dX1_moveTo_31 (by decide) ?_
    refine lv_istore (lv' := [(6, .int 0), (5, .int r26), (4, .int ((m_fi σ2 r2.toNatClampNeg) + 1)), (3, .int r2), (0, .ref (m_h ad)), (1, .int v1), (2, .int v2)]) C.1 C.2.1 dX1_moveTo_32 hl (by decide) rfl (fun ls hl => ?_)
    exact bM_moveTo_34 C Wd hf (lv_sub hl [4, 5, 2, 1, 0] rfl)
  · replace hf := hf.2 hc
    refine lv_iconst (v := 0) C.1 C.2.1 dX1_moveTo_10 (by decide) ?_
    exact m_iret C Wd hf dX1_moveTo_11
set_option maxHeartbeats 4000000 in
set_option maxRecDepth 100000 in
theorem bM_realloc_31 {p : Program} {l : Launch} {e : Env} {s : State} {m : MethodId} {args : Array Value} {below : List Frame} {meth : Method} {c : Code} {D : va_G} {ad : MA} {A : Nat → Prop} (C : m_C p s m args meth c cX1_realloc 5 (some .int)) {post : Int32 → MS → Prop} {σ : MS} {H : Heap} {locs : List Loc} {ls : Array Slot} {v1 : Int32} {v3 : Int32} {k0 : Int32} (Wd : m_W D ad σ A s H locs) (hf : wM_realloc_31 (m_lim ad) σ v1 v3 k0 post) (hl : lv_has ls 5 [(0, .ref (m_h ad)), (1, .int v1), (3, .int v3)]) : W p l e { frames := 6, cells := 0, slots := 0, locals := 141 } s m args below meth c H locs 0 0 (m_Qi below D ad A args s post) (F0 m 31 ls [.int k0]) := by
  refine lv_istore (lv' := [(4, .int k0), (0, .ref (m_h ad)), (1, .int v1), (3, .int v3)]) C.1 C.2.1 dX1_realloc_31 hl (by decide) rfl (fun ls hl => ?_)
  refine lv_aload_n C.1 C.2.1 dX1_realloc_33 rfl (lv_at hl 1 rfl) ?_
  refine m_get_sz C Wd dX1_realloc_34 ?_
  refine lv_iload_n C.1 C.2.1 dX1_realloc_37 rfl (lv_at hl 3 rfl) ?_
  refine m_ald_sz C Wd hf.1 dX1_realloc_38 ?_
  replace hf := hf.2
  refine lv_iload C.1 C.2.1 dX1_realloc_39 (lv_at hl 0 rfl) ?_
  refine lv_icmp_lt (tgt := 53) C.1 C.2.1 dX1_realloc_41 (by decide) (fun hc => ?_) (fun hc => ?_)
  · replace hf := hf.1 hc
    refine lv_aload_n C.1 C.2.1 dX1_realloc_53 rfl (lv_at hl 1 rfl) ?_
    refine lv_iload_n C.1 C.2.1 dX1_realloc_54 rfl (lv_at hl 3 rfl) ?_
    refine lv_iload C.1 C.2.1 dX1_realloc_55 (lv_at hl 0 rfl) ?_
    refine m_calliv (As := [.int v3, .int k0]) (rest := []) C Wd (cM_lengthen l D ad v3 k0) sM_lengthen (by decide) rfl hl.1 rfl (Nat.le_of_ble_eq_true rfl) (by decide) dX1_realloc_57 hf (fun r57 σ57 H locs hf Wd => ?_)
    refine lv_if_eq (tgt := 67) C.1 C.2.1 dX1_realloc_60 (by decide) (fun hc => ?_) (fun hc => ?_)
    · replace hf := hf.1 hc
      refine lv_aload_n C.1 C.2.1 dX1_realloc_67 rfl (lv_at hl 1 rfl) ?_
      refine lv_iload_n C.1 C.2.1 dX1_realloc_68 rfl (lv_at hl 2 rfl) ?_
      refine lv_iload C.1 C.2.1 dX1_realloc_69 (lv_at hl 0 rfl) ?_
      refine m_calliv (As := [.int v1, .int k0]) (rest := []) C Wd (cM_moveTo l D ad v1 k0) sM_moveTo (by decide) rfl hl.1 rfl (Nat.le_of_ble_eq_true rfl) (by decide) dX1_realloc_71 hf (fun r71 σ71 H locs hf Wd => ?_)
      exact m_iret C Wd hf dX1_realloc_74
    · replace hf := hf.2 hc
      refine lv_iload_n C.1 C.2.1 dX1_realloc_63 rfl (lv_at hl 2 rfl) ?_
      refine lv_goto (tgt := 74) C.1 C.2.1 dX1_realloc_64 (by decide) ?_
      exact m_iret C Wd hf dX1_realloc_74
  · replace hf := hf.2 hc
    refine lv_aload_n C.1 C.2.1 dX1_realloc_44 rfl (lv_at hl 1 rfl) ?_
    refine lv_iload_n C.1 C.2.1 dX1_realloc_45 rfl (lv_at hl 3 rfl) ?_
    refine lv_iload C.1 C.2.1 dX1_realloc_46 (lv_at hl 0 rfl) ?_
    refine m_callvv (As := [.int v3, .int k0]) (rest := []) C Wd (cM_shorten l D ad v3 k0) sM_shorten (by decide) rfl hl.1 rfl (Nat.le_of_ble_eq_true rfl) (by decide) dX1_realloc_48 hf (fun σ48 H locs hf Wd => ?_)
    refine lv_iload_n C.1 C.2.1 dX1_realloc_51 rfl (lv_at hl 2 rfl) ?_
    exact m_iret C Wd hf dX1_realloc_52
set_option maxHeartbeats 4000000 in
set_option maxRecDepth 100000 in
theorem cM_realloc (l : Launch) (D : va_G) (ad : MA) (v1 : Int32) (v2 : Int32) : m_Mi l D yX1_realloc cX1_realloc 5 (some .int) { frames := 6, cells := 0, slots := 0, locals := 141 } ad [.ref (m_h ad), .int v1, .int v2] (fun σ post => wM_realloc (m_lim ad) σ v1 v2 post) := by
  refine m_ofi ⟨by decide, rfl, Nat.le_of_ble_eq_true rfl⟩ (fun {p e s m args below meth c σ A post ls} C Wd hf hl => ?_)
  replace hl : lv_has ls 5 [(0, .ref (m_h ad)), (1, .int v1), (2, .int v2)] := hl
  refine lv_aload_n C.1 C.2.1 dX1_realloc_0 rfl (lv_at hl 0 rfl) ?_
  refine lv_iload_n C.1 C.2.1 dX1_realloc_1 rfl (lv_at hl 1 rfl) ?_
  refine m_calliv (As := [.int v1]) (rest := []) C Wd (cM_holder l D ad v1) sM_holder (by decide) rfl hl.1 rfl (Nat.le_of_ble_eq_true rfl) (by decide) dX1_realloc_2 hf (fun r2 σ2 H locs hf Wd => ?_)
  refine lv_istore_n (lv' := [(3, .int r2), (0, .ref (m_h ad)), (1, .int v1), (2, .int v2)]) C.1 C.2.1 dX1_realloc_5 rfl hl (by decide) rfl (fun ls hl => ?_)
  refine lv_iload_n C.1 C.2.1 dX1_realloc_6 rfl (lv_at hl 0 rfl) ?_
  refine lv_if_lt (tgt := 17) C.1 C.2.1 dX1_realloc_7 (by decide) (fun hc => ?_) (fun hc => ?_)
  · replace hf := hf.1 hc
    refine lv_iconst (v := 0) C.1 C.2.1 dX1_realloc_17 (by decide) ?_
    exact m_iret C Wd hf dX1_realloc_18
  · replace hf := hf.2 hc
    refine lv_iload_n C.1 C.2.1 dX1_realloc_10 rfl (lv_at hl 3 rfl) ?_
    refine lv_sipush (v := 511) C.1 C.2.1 dX1_realloc_11 (by decide) ?_
    refine lv_icmp_le (tgt := 19) C.1 C.2.1 dX1_realloc_14 (by decide) (fun hc => ?_) (fun hc => ?_)
    · replace hf := hf.1 hc
      refine lv_iload_n C.1 C.2.1 dX1_realloc_19 rfl (lv_at hl 3 rfl) ?_
      refine lv_iconst (v := 1) C.1 C.2.1 dX1_realloc_20 (by decide) ?_
      refine lv_icmp_ge (tgt := 28) C.1 C.2.1 dX1_realloc_21 (by decide) (fun hc => ?_) (fun hc => ?_)
      · replace hf := hf.1 hc
        refine lv_iload_n C.1 C.2.1 dX1_realloc_28 rfl (lv_at hl 3 rfl) ?_
        refine lv_iconst (v := 1) C.1 C.2.1 dX1_realloc_29 (by decide) ?_
        refine lv_iadd C.1 C.2.1 dX1_realloc_30 ?_
        exact bM_realloc_31 C Wd hf (lv_sub hl [1, 2, 0] rfl)
      · replace hf := hf.2 hc
        refine lv_iconst (v := 2) C.1 C.2.1 dX1_realloc_24 (by decide) ?_
        refine lv_goto (tgt := 31) C.1 C.2.1 dX1_realloc_25 (by decide) ?_
        exact bM_realloc_31 C Wd hf (lv_sub hl [1, 2, 0] rfl)
    · replace hf := hf.2 hc
      refine lv_iconst (v := 0) C.1 C.2.1 dX1_realloc_17 (by decide) ?_
      exact m_iret C Wd hf dX1_realloc_18
