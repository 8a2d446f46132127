set_option maxHeartbeats 4000000 in
set_option maxRecDepth 100000 in
theorem bM_align_128 {p : Program} {l : Launch} {e : Env} {s : State} {m : MethodId} {args : Array Value} {below : List Frame} {meth : Method} {c : Code} {D : va_G} {ad : MA} {A : Nat → Prop} (C : m_C p s m args meth c cX1_align 7 (some .int)) {post : Int32 → MS → Prop} {σ : MS} {H : Heap} {locs : List Loc} {ls : Array Slot} {v3 : Int32} {v5 : Int32} (Wd : m_W D ad σ A s H locs) (hf : wM_align_128 (m_lim ad) σ v3 v5 post) (hl : lv_has ls 7 [(0, .ref (m_h ad)), (3, .int v3), (5, .int v5)]) : W p l e { frames := 5, cells := 0, slots := 0, locals := 115 } s m args below meth c H locs 0 0 (m_Qi below D ad A args s post) (F0 m 128 ls []) := by
  refine lv_aload_n C.1 C.2.1 dX1_align_128 rfl (lv_at hl 0 rfl) ?_
  refine lv_iload C.1 C.2.1 dX1_align_129 (lv_at hl 2 rfl) ?_
  refine lv_iconst (v := 1) C.1 C.2.1 dX1_align_131 (by decide) ?_
  refine lv_isub C.1 C.2.1 dX1_align_132 ?_
  refine m_calliv (As := [.int (v5 - 1)]) (rest := []) C Wd (cM_at l D ad (v5 - 1)) sM_at (by decide) rfl hl.1 rfl (Nat.le_of_ble_eq_true rfl) (by decide) dX1_align_133 hf (fun r133 σ133 H locs hf Wd => ?_)
  refine lv_istore (lv' := [(6, .int r133), (0, .ref (m_h ad)), (3, .int v3), (5, .int v5)]) C.1 C.2.1 dX1_align_136 hl (by decide) rfl (fun ls hl => ?_)
  refine lv_aload_n C.1 C.2.1 dX1_align_138 rfl (lv_at hl 1 rfl) ?_
  refine lv_iload C.1 C.2.1 dX1_align_139 (lv_at hl 0 rfl) ?_
  refine lv_iload_n C.1 C.2.1 dX1_align_141 rfl (lv_at hl 2 rfl) ?_
  refine lv_iconst (v := 1) C.1 C.2.1 dX1_align_142 (by decide) ?_
  refine lv_iadd C.1 C.2.1 dX1_align_143 ?_
  refine m_callvv (As := [.int r133, .int (v3 + 1)]) (rest := []) C Wd (cM_shorten l D ad r133 (v3 + 1)) sM_shorten (by decide) rfl hl.1 rfl (Nat.le_of_ble_eq_true rfl) (by decide) dX1_align_144 hf (fun σ144 H locs hf Wd => ?_)
  refine lv_iload C.1 C.2.1 dX1_align_147 (lv_at hl 3 rfl) ?_
  exact m_iret C Wd hf dX1_align_149
set_option maxHeartbeats 4000000 in
set_option maxRecDepth 100000 in
theorem bM_align_97 {p : Program} {l : Launch} {e : Env} {s : State} {m : MethodId} {args : Array Value} {below : List Frame} {meth : Method} {c : Code} {D : va_G} {ad : MA} {A : Nat → Prop} (C : m_C p s m args meth c cX1_align 7 (some .int)) {post : Int32 → MS → Prop} {σ : MS} {H : Heap} {locs : List Loc} {ls : Array Slot} {v3 : Int32} {v4 : Int32} {v5 : Int32} {v6 : Int32} (Wd : m_W D ad σ A s H locs) (hf : wM_align_97 (m_lim ad) σ v3 v4 v5 v6 post) (hl : lv_has ls 7 [(0, .ref (m_h ad)), (3, .int v3), (4, .int v4), (5, .int v5), (6, .int v6)]) : W p l e { frames := 5, cells := 0, slots := 0, locals := 115 } s m args below meth c H locs 0 0 (m_Qi below D ad A args s post) (F0 m 97 ls []) := by
  refine lv_aload_n C.1 C.2.1 dX1_align_97 rfl (lv_at hl 0 rfl) ?_
  refine lv_iload C.1 C.2.1 dX1_align_98 (lv_at hl 2 rfl) ?_
  refine lv_iload C.1 C.2.1 dX1_align_100 (lv_at hl 4 rfl) ?_
  refine m_callvv (As := [.int v4, .int v6]) (rest := []) C Wd (cM_part l D ad v4 v6) sM_part (by decide) rfl hl.1 rfl (Nat.le_of_ble_eq_true rfl) (by decide) dX1_align_102 hf (fun σ102 H locs hf Wd => ?_)
  refine lv_aload_n C.1 C.2.1 dX1_align_105 rfl (lv_at hl 0 rfl) ?_
  refine m_get_us C Wd dX1_align_106 ?_
  refine lv_iload C.1 C.2.1 dX1_align_109 (lv_at hl 2 rfl) ?_
  refine lv_iconst (v := 1) C.1 C.2.1 dX1_align_111 (by decide) ?_
  refine lv_iadd C.1 C.2.1 dX1_align_112 ?_
  refine lv_iconst (v := 1) C.1 C.2.1 dX1_align_113 (by decide) ?_
  refine m_ast_us C Wd hf.1 rfl dX1_align_114 (fun H locs Wd => ?_)
  replace hf := hf.2
  refine lv_aload_n C.1 C.2.1 dX1_align_115 rfl (lv_at hl 0 rfl) ?_
  refine lv_iload C.1 C.2.1 dX1_align_116 (lv_at hl 2 rfl) ?_
  refine m_callvv (As := [.int v4]) (rest := []) C Wd (cM_give l D ad v4) sM_give (by decide) rfl hl.1 rfl (Nat.le_of_ble_eq_true rfl) (by decide) dX1_align_118 hf (fun σ118 H locs hf Wd => ?_)
  refine lv_iload C.1 C.2.1 dX1_align_121 (lv_at hl 3 rfl) ?_
  refine lv_iload C.1 C.2.1 dX1_align_123 (lv_at hl 4 rfl) ?_
  refine lv_iadd C.1 C.2.1 dX1_align_125 ?_
  refine lv_istore (lv' := [(5, .int (v5 + v6)), (0, .ref (m_h ad)), (3, .int v3), (4, .int v4), (6, .int v6)]) C.1 C.2.1 dX1_align_126 hl (by decide) rfl (fun ls hl => ?_)
  exact bM_align_128 C Wd hf (lv_sub hl [1, 2, 0] rfl)
set_option maxHeartbeats 4000000 in
set_option maxRecDepth 100000 in
theorem bM_align_81_f {p : Program} {l : Launch} {e : Env} {s : State} {m : MethodId} {args : Array Value} {below : List Frame} {meth : Method} {c : Code} {D : va_G} {ad : MA} {A : Nat → Prop} (C : m_C p s m args meth c cX1_align 7 (some .int)) {post : Int32 → MS → Prop} : ∀ (f : Nat) (σ : MS) (H : Heap) (locs : List Loc) (ls : Array Slot) (v2 : Int32) (v3 : Int32) (v4 : Int32) (v5 : Int32) (v6 : Int32), m_W D ad σ A s H locs → wM_align_81 (m_lim ad) post f σ v2 v3 v4 v5 v6 → lv_has ls 7 [(0, .ref (m_h ad)), (2, .int v2), (3, .int v3), (4, .int v4), (5, .int v5), (6, .int v6)] → W p l e { frames := 5, cells := 0, slots := 0, locals := 115 } s m args below meth c H locs 0 0 (m_Qi below D ad A args s post) (F0 m 81 ls []) := by
  intro f
  induction f with
  | zero => intro σ H locs ls v2 v3 v4 v5 v6 Wd hf hl; exact False.elim hf
  | succ f ih =>
    intro σ H locs ls v2 v3 v4 v5 v6 Wd hf hl
    replace hf : wM_align_81_s (m_lim ad) post (wM_align_81 (m_lim ad) post f) σ v2 v3 v4 v5 v6 := hf
    refine lv_iload C.1 C.2.1 dX1_align_81 (lv_at hl 4 rfl) ?_
    refine lv_iload C.1 C.2.1 dX1_align_83 (lv_at hl 5 rfl) ?_
    refine lv_iadd C.1 C.2.1 dX1_align_85 ?_
    refine lv_iload_n C.1 C.2.1 dX1_align_86 rfl (lv_at hl 1 rfl) ?_
    refine lv_irem C.1 C.2.1 dX1_align_87 hf.1 ?_
    replace hf := hf.2
    refine lv_if_eq (tgt := 97) C.1 C.2.1 dX1_align_88 (by decide) (fun hc => ?_) (fun hc => ?_)
    · replace hf := hf.1 hc
      exact bM_align_97 C Wd hf (lv_sub hl [0, 2, 3, 4, 5] rfl)
    · replace hf := hf.2 hc
      refine lv_iinc (v := v6 + 1) (lv' := [(6, .int (v6 + 1)), (0, .ref (m_h ad)), (2, .int v2), (3, .int v3), (4, .int v4), (5, .int v5)]) C.1 C.2.1 dX1_align_91 hl (k := 5) rfl rfl (by decide) rfl (fun ls hl => ?_)
      refine lv_goto (tgt := 81) C.1 C.2.1 dX1_align_94 (by decide) ?_
      exact ih _ _ _ _ _ _ _ _ _  Wd hf (lv_sub hl [1, 2, 3, 4, 5, 0] rfl)
theorem bM_align_81 {p : Program} {l : Launch} {e : Env} {s : State} {m : MethodId} {args : Array Value} {below : List Frame} {meth : Method} {c : Code} {D : va_G} {ad : MA} {A : Nat → Prop} (C : m_C p s m args meth c cX1_align 7 (some .int)) {post : Int32 → MS → Prop} {σ : MS} {H : Heap} {locs : List Loc} {ls : Array Slot} {v2 : Int32} {v3 : Int32} {v4 : Int32} {v5 : Int32} {v6 : Int32} (Wd : m_W D ad σ A s H locs) (hf : ∃ f : Nat, wM_align_81 (m_lim ad) post f σ v2 v3 v4 v5 v6) (hl : lv_has ls 7 [(0, .ref (m_h ad)), (2, .int v2), (3, .int v3), (4, .int v4), (5, .int v5), (6, .int v6)]) : W p l e { frames := 5, cells := 0, slots := 0, locals := 115 } s m args below meth c H locs 0 0 (m_Qi below D ad A args s post) (F0 m 81 ls []) := by
  obtain ⟨f, hf⟩ := hf
  exact bM_align_81_f C f σ H locs ls v2 v3 v4 v5 v6 Wd hf hl
set_option maxHeartbeats 4000000 in
set_option maxRecDepth 100000 in
theorem bM_align_41 {p : Program} {l : Launch} {e : Env} {s : State} {m : MethodId} {args : Array Value} {below : List Frame} {meth : Method} {c : Code} {D : va_G} {ad : MA} {A : Nat → Prop} (C : m_C p s m args meth c cX1_align 7 (some .int)) {post : Int32 → MS → Prop} {σ : MS} {H : Heap} {locs : List Loc} {ls : Array Slot} {v2 : Int32} {k0 : Int32} (Wd : m_W D ad σ A s H locs) (hf : wM_align_41 (m_lim ad) σ v2 k0 post) (hl : lv_has ls 7 [(0, .ref (m_h ad)), (2, .int v2)]) : W p l e { frames := 5, cells := 0, slots := 0, locals := 115 } s m args below meth c H locs 0 0 (m_Qi below D ad A args s post) (F0 m 41 ls [.int k0]) := by
  refine lv_istore_n (lv' := [(3, .int k0), (0, .ref (m_h ad)), (2, .int v2)]) C.1 C.2.1 dX1_align_41 rfl hl (by decide) rfl (fun ls hl => ?_)
  refine lv_aload_n C.1 C.2.1 dX1_align_42 rfl (lv_at hl 1 rfl) ?_
  refine lv_iload_n C.1 C.2.1 dX1_align_43 rfl (lv_at hl 0 rfl) ?_
  refine lv_iload_n C.1 C.2.1 dX1_align_44 rfl (lv_at hl 2 rfl) ?_
  refine lv_iadd C.1 C.2.1 dX1_align_45 ?_
  refine lv_iconst (v := 3) C.1 C.2.1 dX1_align_46 (by decide) ?_
  refine lv_iadd C.1 C.2.1 dX1_align_47 ?_
  refine m_calliv (As := [.int ((k0 + v2) + 3)]) (rest := []) C Wd (cM_take l D ad ((k0 + v2) + 3)) sM_take (by decide) rfl hl.1 rfl (Nat.le_of_ble_eq_true rfl) (by decide) dX1_align_48 hf (fun r48 σ48 H locs hf Wd => ?_)
  refine lv_istore (lv' := [(4, .int r48), (3, .int k0), (0, .ref (m_h ad)), (2, .int v2)]) C.1 C.2.1 dX1_align_51 hl (by decide) rfl (fun ls hl => ?_)
  refine lv_iload C.1 C.2.1 dX1_align_53 (lv_at hl 0 rfl) ?_
  refine lv_if_ge (tgt := 60) C.1 C.2.1 dX1_align_55 (by decide) (fun hc => ?_) (fun hc => ?_)
  · replace hf := hf.1 hc
    refine lv_aload_n C.1 C.2.1 dX1_align_60 rfl (lv_at hl 2 rfl) ?_
    refine m_get_fi C Wd dX1_align_61 ?_
    refine lv_iload C.1 C.2.1 dX1_align_64 (lv_at hl 0 rfl) ?_
    refine m_ald_fi C Wd hf.1 dX1_align_66 ?_
    replace hf := hf.2
    refine lv_iconst (v := 1) C.1 C.2.1 dX1_align_67 (by decide) ?_
    refine lv_iadd C.1 C.2.1 dX1_align_68 ?_
    refine lv_istore (lv' := [(5, .int ((m_fi σ48 r48.toNatClampNeg) + 1)), (4, .int r48), (3, .int k0), (0, .ref (m_h ad)), (2, .int v2)]) C.1 C.2.1 dX1_align_69 hl (by decide) rfl (fun ls hl => ?_)
    refine lv_iload C.1 C.2.1 dX1_align_71 (lv_at hl 0 rfl) ?_
    refine lv_iload_n C.1 C.2.1 dX1_align_73 rfl (lv_at hl 4 rfl) ?_
    refine lv_irem C.1 C.2.1 dX1_align_74 hf.1 ?_
    replace hf := hf.2
    refine lv_if_eq (tgt := 128) C.1 C.2.1 dX1_align_75 (by decide) (fun hc => ?_) (fun hc => ?_)
    · replace hf := hf.1 hc
      exact bM_align_128 C Wd hf (lv_sub hl [3, 2, 0] rfl)
    · replace hf := hf.2 hc
      refine lv_iconst (v := 2) C.1 C.2.1 dX1_align_78 (by decide) ?_
      refine lv_istore (lv' := [(6, .int 2), (5, .int ((m_fi σ48 r48.toNatClampNeg) + 1)), (4, .int r48), (3, .int k0), (0, .ref (m_h ad)), (2, .int v2)]) C.1 C.2.1 dX1_align_79 hl (by decide) rfl (fun ls hl => ?_)
      exact bM_align_81 C Wd hf (lv_sub hl [4, 5, 3, 2, 1, 0] rfl)
  · replace hf := hf.2 hc
    refine lv_iconst (v := 0) C.1 C.2.1 dX1_align_58 (by decide) ?_
    exact m_iret C Wd hf dX1_align_59
set_option maxHeartbeats 4000000 in
set_option maxRecDepth 100000 in
theorem cM_align (l : Launch) (D : va_G) (ad : MA) (v1 : Int32) (v2 : Int32) : m_Mi l D yX1_align cX1_align 7 (some .int) { frames := 5, cells := 0, slots := 0, locals := 115 } ad [.ref (m_h ad), .int v1, .int v2] (fun σ post => wM_align (m_lim ad) σ v1 v2 post) := by
  refine m_ofi ⟨by decide, rfl, Nat.le_of_ble_eq_true rfl⟩ (fun {p e s m args below meth c σ A post ls} C Wd hf hl => ?_)
  replace hl : lv_has ls 7 [(0, .ref (m_h ad)), (1, .int v1), (2, .int v2)] := hl
  refine lv_iload_n C.1 C.2.1 dX1_align_0 rfl (lv_at hl 1 rfl) ?_
  refine lv_sipush (v := 511) C.1 C.2.1 dX1_align_1 (by decide) ?_
  refine lv_icmp_gt (tgt := 29) C.1 C.2.1 dX1_align_4 (by decide) (fun hc => ?_) (fun hc => ?_)
  · replace hf := hf.1 hc
    refine lv_iconst (v := 0) C.1 C.2.1 dX1_align_29 (by decide) ?_
    exact m_iret C Wd hf dX1_align_30
  · replace hf := hf.2 hc
    refine lv_iload_n C.1 C.2.1 dX1_align_7 rfl (lv_at hl 2 rfl) ?_
    refine lv_iconst (v := 2) C.1 C.2.1 dX1_align_8 (by decide) ?_
    refine lv_icmp_eq (tgt := 31) C.1 C.2.1 dX1_align_9 (by decide) (fun hc => ?_) (fun hc => ?_)
    · replace hf := hf.1 hc
      refine lv_iload_n C.1 C.2.1 dX1_align_31 rfl (lv_at hl 1 rfl) ?_
      refine lv_iconst (v := 1) C.1 C.2.1 dX1_align_32 (by decide) ?_
      refine lv_icmp_ge (tgt := 40) C.1 C.2.1 dX1_align_33 (by decide) (fun hc => ?_) (fun hc => ?_)
      · replace hf := hf.1 hc
        refine lv_iload_n C.1 C.2.1 dX1_align_40 rfl (lv_at hl 1 rfl) ?_
        exact bM_align_41 C Wd hf (lv_sub hl [0, 2] rfl)
      · replace hf := hf.2 hc
        refine lv_iconst (v := 1) C.1 C.2.1 dX1_align_36 (by decide) ?_
        refine lv_goto (tgt := 41) C.1 C.2.1 dX1_align_37 (by decide) ?_
        exact bM_align_41 C Wd hf (lv_sub hl [0, 2] rfl)
    · replace hf := hf.2 hc
      refine lv_iload_n C.1 C.2.1 dX1_align_12 rfl (lv_at hl 2 rfl) ?_
      refine lv_iconst (v := 4) C.1 C.2.1 dX1_align_13 (by decide) ?_
      refine lv_icmp_eq (tgt := 31) C.1 C.2.1 dX1_align_14 (by decide) (fun hc => ?_) (fun hc => ?_)
      · replace hf := hf.1 hc
        refine lv_iload_n C.1 C.2.1 dX1_align_31 rfl (lv_at hl 1 rfl) ?_
        refine lv_iconst (v := 1) C.1 C.2.1 dX1_align_32 (by decide) ?_
        refine lv_icmp_ge (tgt := 40) C.1 C.2.1 dX1_align_33 (by decide) (fun hc => ?_) (fun hc => ?_)
        · replace hf := hf.1 hc
          refine lv_iload_n C.1 C.2.1 dX1_align_40 rfl (lv_at hl 1 rfl) ?_
          exact bM_align_41 C Wd hf (lv_sub hl [0, 2] rfl)
        · replace hf := hf.2 hc
          refine lv_iconst (v := 1) C.1 C.2.1 dX1_align_36 (by decide) ?_
          refine lv_goto (tgt := 41) C.1 C.2.1 dX1_align_37 (by decide) ?_
          exact bM_align_41 C Wd hf (lv_sub hl [0, 2] rfl)
      · replace hf := hf.2 hc
        refine lv_iload_n C.1 C.2.1 dX1_align_17 rfl (lv_at hl 2 rfl) ?_
        refine lv_bipush (v := 8) C.1 C.2.1 dX1_align_18 (by decide) ?_
        refine lv_icmp_eq (tgt := 31) C.1 C.2.1 dX1_align_20 (by decide) (fun hc => ?_) (fun hc => ?_)
        · replace hf := hf.1 hc
          refine lv_iload_n C.1 C.2.1 dX1_align_31 rfl (lv_at hl 1 rfl) ?_
          refine lv_iconst (v := 1) C.1 C.2.1 dX1_align_32 (by decide) ?_
          refine lv_icmp_ge (tgt := 40) C.1 C.2.1 dX1_align_33 (by decide) (fun hc => ?_) (fun hc => ?_)
          · replace hf := hf.1 hc
            refine lv_iload_n C.1 C.2.1 dX1_align_40 rfl (lv_at hl 1 rfl) ?_
            exact bM_align_41 C Wd hf (lv_sub hl [0, 2] rfl)
          · replace hf := hf.2 hc
            refine lv_iconst (v := 1) C.1 C.2.1 dX1_align_36 (by decide) ?_
            refine lv_goto (tgt := 41) C.1 C.2.1 dX1_align_37 (by decide) ?_
            exact bM_align_41 C Wd hf (lv_sub hl [0, 2] rfl)
        · replace hf := hf.2 hc
          refine lv_iload_n C.1 C.2.1 dX1_align_23 rfl (lv_at hl 2 rfl) ?_
          refine lv_bipush (v := 16) C.1 C.2.1 dX1_align_24 (by decide) ?_
          refine lv_icmp_eq (tgt := 31) C.1 C.2.1 dX1_align_26 (by decide) (fun hc => ?_) (fun hc => ?_)
          · replace hf := hf.1 hc
            refine lv_iload_n C.1 C.2.1 dX1_align_31 rfl (lv_at hl 1 rfl) ?_
            refine lv_iconst (v := 1) C.1 C.2.1 dX1_align_32 (by decide) ?_
            refine lv_icmp_ge (tgt := 40) C.1 C.2.1 dX1_align_33 (by decide) (fun hc => ?_) (fun hc => ?_)
            · replace hf := hf.1 hc
              refine lv_iload_n C.1 C.2.1 dX1_align_40 rfl (lv_at hl 1 rfl) ?_
              exact bM_align_41 C Wd hf (lv_sub hl [0, 2] rfl)
            · replace hf := hf.2 hc
              refine lv_iconst (v := 1) C.1 C.2.1 dX1_align_36 (by decide) ?_
              refine lv_goto (tgt := 41) C.1 C.2.1 dX1_align_37 (by decide) ?_
              exact bM_align_41 C Wd hf (lv_sub hl [0, 2] rfl)
          · replace hf := hf.2 hc
            refine lv_iconst (v := 0) C.1 C.2.1 dX1_align_29 (by decide) ?_
            exact m_iret C Wd hf dX1_align_30
set_option maxHeartbeats 4000000 in
set_option maxRecDepth 100000 in
theorem bM_trim_60 {p : Program} {l : Launch} {e : Env} {s : State} {m : MethodId} {args : Array Value} {below : List Frame} {meth : Method} {c : Code} {D : va_G} {ad : MA} {A : Nat → Prop} (C : m_C p s m args meth c cX1_trim 4 (some .int)) {post : Int32 → MS → Prop} {σ : MS} {H : Heap} {locs : List Loc} {ls : Array Slot} {v2 : Int32} {v3 : Int32} (Wd : m_W D ad σ A s H locs) (hf : wM_trim_60 (m_lim ad) σ v2 v3 post) (hl : lv_has ls 4 [(0, .ref (m_h ad)), (2, .int v2), (3, .int v3)]) : W p l e { frames := 1, cells := 0, slots := 0, locals := 20 } s m args below meth c H locs 0 0 (m_Qi below D ad A args s post) (F0 m 60 ls []) := by
  refine lv_aload_n C.1 C.2.1 dX1_trim_60 rfl (lv_at hl 0 rfl) ?_
  refine lv_aload_n C.1 C.2.1 dX1_trim_61 rfl (lv_at hl 0 rfl) ?_
  refine m_get_en C Wd dX1_trim_62 ?_
  refine lv_iload_n C.1 C.2.1 dX1_trim_65 rfl (lv_at hl 2 rfl) ?_
  refine lv_isub C.1 C.2.1 dX1_trim_66 ?_
  refine m_put_en C Wd dX1_trim_67 (fun H locs Wd => ?_)
  refine lv_aload_n C.1 C.2.1 dX1_trim_70 rfl (lv_at hl 0 rfl) ?_
  refine m_get_sz C Wd dX1_trim_71 ?_
  refine lv_iload_n C.1 C.2.1 dX1_trim_74 rfl (lv_at hl 1 rfl) ?_
  refine lv_aload_n C.1 C.2.1 dX1_trim_75 rfl (lv_at hl 0 rfl) ?_
  refine m_get_sz C Wd dX1_trim_76 ?_
  refine lv_iload_n C.1 C.2.1 dX1_trim_79 rfl (lv_at hl 1 rfl) ?_
  refine m_ald_sz C Wd hf.1 dX1_trim_80 ?_
  replace hf := hf.2
  refine lv_iload_n C.1 C.2.1 dX1_trim_81 rfl (lv_at hl 2 rfl) ?_
  refine lv_isub C.1 C.2.1 dX1_trim_82 ?_
  refine m_ast_sz C Wd hf.1 dX1_trim_83 (fun H locs Wd => ?_)
  replace hf := hf.2
  refine lv_aload_n C.1 C.2.1 dX1_trim_84 rfl (lv_at hl 0 rfl) ?_
  refine m_get_sz C Wd dX1_trim_85 ?_
  refine lv_iload_n C.1 C.2.1 dX1_trim_88 rfl (lv_at hl 1 rfl) ?_
  refine m_ald_sz C Wd hf.1 dX1_trim_89 ?_
  replace hf := hf.2
  refine lv_if_ne (tgt := 103) C.1 C.2.1 dX1_trim_90 (by decide) (fun hc => ?_) (fun hc => ?_)
  · replace hf := hf.1 hc
    refine lv_iload_n C.1 C.2.1 dX1_trim_103 rfl (lv_at hl 2 rfl) ?_
    exact m_iret C Wd hf dX1_trim_104
  · replace hf := hf.2 hc
    refine lv_aload_n C.1 C.2.1 dX1_trim_93 rfl (lv_at hl 0 rfl) ?_
    refine lv_dup C.1 C.2.1 dX1_trim_94 rfl ?_
    refine m_get_ch C Wd dX1_trim_95 ?_
    refine lv_iconst (v := 1) C.1 C.2.1 dX1_trim_98 (by decide) ?_
    refine lv_isub C.1 C.2.1 dX1_trim_99 ?_
    refine m_put_ch C Wd dX1_trim_100 (fun H locs Wd => ?_)
    refine lv_iload_n C.1 C.2.1 dX1_trim_103 rfl (lv_at hl 2 rfl) ?_
    exact m_iret C Wd hf dX1_trim_104
set_option maxHeartbeats 4000000 in
set_option maxRecDepth 100000 in
theorem bM_trim_24_f {p : Program} {l : Launch} {e : Env} {s : State} {m : MethodId} {args : Array Value} {below : List Frame} {meth : Method} {c : Code} {D : va_G} {ad : MA} {A : Nat → Prop} (C : m_C p s m args meth c cX1_trim 4 (some .int)) {post : Int32 → MS → Prop} : ∀ (f : Nat) (σ : MS) (H : Heap) (locs : List Loc) (ls : Array Slot) (v1 : Int32) (v2 : Int32) (v3 : Int32), m_W D ad σ A s H locs → wM_trim_24 (m_lim ad) post f σ v1 v2 v3 → lv_has ls 4 [(0, .ref (m_h ad)), (1, .int v1), (2, .int v2), (3, .int v3)] → W p l e { frames := 1, cells := 0, slots := 0, locals := 20 } s m args below meth c H locs 0 0 (m_Qi below D ad A args s post) (F0 m 24 ls []) := by
  intro f
  induction f with
  | zero => intro σ H locs ls v1 v2 v3 Wd hf hl; exact False.elim hf
  | succ f ih =>
    intro σ H locs ls v1 v2 v3 Wd hf hl
    replace hf : wM_trim_24_s (m_lim ad) post (wM_trim_24 (m_lim ad) post f) σ v1 v2 v3 := hf
    refine lv_iload_n C.1 C.2.1 dX1_trim_24 rfl (lv_at hl 3 rfl) ?_
    refine lv_if_le (tgt := 60) C.1 C.2.1 dX1_trim_25 (by decide) (fun hc => ?_) (fun hc => ?_)
    · replace hf := hf.1 hc
      exact bM_trim_60 C Wd hf (lv_sub hl [0, 2, 3] rfl)
    · replace hf := hf.2 hc
      refine lv_aload_n C.1 C.2.1 dX1_trim_28 rfl (lv_at hl 0 rfl) ?_
      refine m_get_sz C Wd dX1_trim_29 ?_
      refine lv_iload_n C.1 C.2.1 dX1_trim_32 rfl (lv_at hl 2 rfl) ?_
      refine m_ald_sz C Wd hf.1 dX1_trim_33 ?_
      replace hf := hf.2
      refine lv_iload_n C.1 C.2.1 dX1_trim_34 rfl (lv_at hl 3 rfl) ?_
      refine lv_isub C.1 C.2.1 dX1_trim_35 ?_
      refine lv_iload_n C.1 C.2.1 dX1_trim_36 rfl (lv_at hl 1 rfl) ?_
      refine lv_icmp_lt (tgt := 52) C.1 C.2.1 dX1_trim_37 (by decide) (fun hc => ?_) (fun hc => ?_)
      · replace hf := hf.1 hc
        refine lv_iload_n C.1 C.2.1 dX1_trim_52 rfl (lv_at hl 3 rfl) ?_
        refine lv_bipush (v := 16) C.1 C.2.1 dX1_trim_53 (by decide) ?_
        refine lv_isub C.1 C.2.1 dX1_trim_55 ?_
        refine lv_istore_n (lv' := [(3, .int (v3 - 16)), (0, .ref (m_h ad)), (1, .int v1), (2, .int v2)]) C.1 C.2.1 dX1_trim_56 rfl hl (by decide) rfl (fun ls hl => ?_)
        refine lv_goto (tgt := 24) C.1 C.2.1 dX1_trim_57 (by decide) ?_
        exact ih _ _ _ _ _ _ _  Wd hf (lv_sub hl [1, 2, 3, 0] rfl)
      · replace hf := hf.2 hc
        refine lv_aload_n C.1 C.2.1 dX1_trim_40 rfl (lv_at hl 0 rfl) ?_
        refine m_get_sz C Wd dX1_trim_41 ?_
        refine lv_iload_n C.1 C.2.1 dX1_trim_44 rfl (lv_at hl 2 rfl) ?_
        refine m_ald_sz C Wd hf.1 dX1_trim_45 ?_
        replace hf := hf.2
        refine lv_iload_n C.1 C.2.1 dX1_trim_46 rfl (lv_at hl 3 rfl) ?_
        refine lv_isub C.1 C.2.1 dX1_trim_47 ?_
        refine lv_iconst (v := 1) C.1 C.2.1 dX1_trim_48 (by decide) ?_
        refine lv_icmp_ne (tgt := 60) C.1 C.2.1 dX1_trim_49 (by decide) (fun hc => ?_) (fun hc => ?_)
        · replace hf := hf.1 hc
          exact bM_trim_60 C Wd hf (lv_sub hl [0, 2, 3] rfl)
        · replace hf := hf.2 hc
          refine lv_iload_n C.1 C.2.1 dX1_trim_52 rfl (lv_at hl 3 rfl) ?_
          refine lv_bipush (v := 16) C.1 C.2.1 dX1_trim_53 (by decide) ?_
          refine lv_isub C.1 C.2.1 dX1_trim_55 ?_
          refine lv_istore_n (lv' := [(3, .int (v3 - 16)), (0, .ref (m_h ad)), (1, .int v1), (2, .int v2)]) C.1 C.2.1 dX1_trim_56 rfl hl (by decide) rfl (fun ls hl => ?_)
          refine lv_goto (tgt := 24) C.1 C.2.1 dX1_trim_57 (by decide) ?_
          exact ih _ _ _ _ _ _ _  Wd hf (lv_sub hl [1, 2, 3, 0] rfl)
theorem bM_trim_24 {p : Program} {l : Launch} {e : Env} {s : State} {m : MethodId} {args : Array Value} {below : List Frame} {meth : Method} {c : Code} {D : va_G} {ad : MA} {A : Nat → Prop} (C : m_C p s m args meth c cX1_trim 4 (some .int)) {post : Int32 → MS → Prop} {σ : MS} {H : Heap} {locs : List Loc} {ls : Array Slot} {v1 : Int32} {v2 : Int32} {v3 : Int32} (Wd : m_W D ad σ A s H locs) (hf : ∃ f : Nat, wM_trim_24 (m_lim ad) post f σ v1 v2 v3) (hl : lv_has ls 4 [(0, .ref (m_h ad)), (1, .int v1), (2, .int v2), (3, .int v3)]) : W p l e { frames := 1, cells := 0, slots := 0, locals := 20 } s m args below meth c H locs 0 0 (m_Qi below D ad A args s post) (F0 m 24 ls []) := by
  obtain ⟨f, hf⟩ := hf
  exact bM_trim_24_f C f σ H locs ls v1 v2 v3 Wd hf hl
set_option maxHeartbeats 4000000 in
set_option maxRecDepth 100000 in
theorem cM_trim (l : Launch) (D : va_G) (ad : MA) (v1 : Int32) : m_Mi l D yX1_trim cX1_trim 4 (some .int) { frames := 1, cells := 0, slots := 0, locals := 20 } ad [.ref (m_h ad), .int v1] (fun σ post => wM_trim (m_lim ad) σ v1 post) := by
  refine m_ofi ⟨by decide, rfl, Nat.le_of_ble_eq_true rfl⟩ (fun {p e s m args below meth c σ A post ls} C Wd hf hl => ?_)
  replace hl : lv_has ls 4 [(0, .ref (m_h ad)), (1, .int v1)] := hl
  refine lv_aload_n C.1 C.2.1 dX1_trim_0 rfl (lv_at hl 0 rfl) ?_
  refine m_calliv (As := []) (rest := []) C Wd (cM_top l D ad ) sM_top (by decide) rfl hl.1 rfl (Nat.le_of_ble_eq_true rfl) (by decide) dX1_trim_1 hf (fun r1 σ1 H locs hf Wd => ?_)
  refine lv_istore_n (lv' := [(2, .int r1), (0, .ref (m_h ad)), (1, .int v1)]) C.1 C.2.1 dX1_trim_4 rfl hl (by decide) rfl (fun ls hl => ?_)
  refine lv_iload_n C.1 C.2.1 dX1_trim_5 rfl (lv_at hl 0 rfl) ?_
  refine lv_if_ge (tgt := 11) C.1 C.2.1 dX1_trim_6 (by decide) (fun hc => ?_) (fun hc => ?_)
  · replace hf := hf.1 hc
    refine lv_aload_n C.1 C.2.1 dX1_trim_11 rfl (lv_at hl 1 rfl) ?_
    refine m_get_sz C Wd dX1_trim_12 ?_
    refine lv_iload_n C.1 C.2.1 dX1_trim_15 rfl (lv_at hl 0 rfl) ?_
    refine m_ald_sz C Wd hf.1 dX1_trim_16 ?_
    replace hf := hf.2
    refine lv_bipush (v := 16) C.1 C.2.1 dX1_trim_17 (by decide) ?_
    refine lv_idiv C.1 C.2.1 dX1_trim_19 (by decide) ?_
    refine lv_bipush (v := 16) C.1 C.2.1 dX1_trim_20 (by decide) ?_
    refine lv_imul C.1 C.2.1 dX1_trim_22 ?_
    refine lv_istore_n (lv' := [(3, .int (((m_sz σ1 r1.toNatClampNeg) / 16) * 16)), (2, .int r1), (0, .ref (m_h ad)), (1, .int v1)]) C.1 C.2.1 dX1_trim_23 rfl hl (by decide) rfl (fun ls hl => ?_)
    exact bM_trim_24 C Wd hf (lv_sub hl [2, 3, 1, 0] rfl)
  · replace hf := hf.2 hc
    refine lv_iconst (v := 0) C.1 C.2.1 dX1_trim_9 (by decide) ?_
    exact m_iret C Wd hf dX1_trim_10
set_option maxHeartbeats 4000000 in
set_option maxRecDepth 100000 in
theorem cM_usable (l : Launch) (D : va_G) (ad : MA) (v1 : Int32) : m_Mi l D yX1_usable cX1_usable 3 (some .int) { frames := 2, cells := 0, slots := 0, locals := 44 } ad [.ref (m_h ad), .int v1] (fun σ post => wM_usable (m_lim ad) σ v1 post) := by
  refine m_ofi ⟨by decide, rfl, Nat.le_of_ble_eq_true rfl⟩ (fun {p e s m args below meth c σ A post ls} C Wd hf hl => ?_)
  replace hl : lv_has ls 3 [(0, .ref (m_h ad)), (1, .int v1)] := hl
  refine lv_aload_n C.1 C.2.1 dX1_usable_0 rfl (lv_at hl 0 rfl) ?_
  refine lv_iload_n C.1 C.2.1 dX1_usable_1 rfl (lv_at hl 1 rfl) ?_
  refine m_calliv (As := [.int v1]) (rest := []) C Wd (cM_holder l D ad v1) sM_holder (by decide) rfl hl.1 rfl (Nat.le_of_ble_eq_true rfl) (by decide) dX1_usable_2 hf (fun r2 σ2 H locs hf Wd => ?_)
  refine lv_istore_n (lv' := [(2, .int r2), (0, .ref (m_h ad)), (1, .int v1)]) C.1 C.2.1 dX1_usable_5 rfl hl (by decide) rfl (fun ls hl => ?_)
  refine lv_iload_n C.1 C.2.1 dX1_usable_6 rfl (lv_at hl 0 rfl) ?_
  refine lv_if_ge (tgt := 14) C.1 C.2.1 dX1_usable_7 (by decide) (fun hc => ?_) (fun hc => ?_)
  · replace hf := hf.1 hc
    refine lv_aload_n C.1 C.2.1 dX1_usable_14 rfl (lv_at hl 1 rfl) ?_
    refine m_get_sz C Wd dX1_usable_15 ?_
    refine lv_iload_n C.1 C.2.1 dX1_usable_18 rfl (lv_at hl 0 rfl) ?_
    refine m_ald_sz C Wd hf.1 dX1_usable_19 ?_
    replace hf := hf.2
    refine lv_iconst (v := 1) C.1 C.2.1 dX1_usable_20 (by decide) ?_
    refine lv_isub C.1 C.2.1 dX1_usable_21 ?_
    exact m_iret C Wd hf dX1_usable_22
  · replace hf := hf.2 hc
    refine lv_iconst (v := 0) C.1 C.2.1 dX1_usable_10 (by decide) ?_
    refine lv_goto (tgt := 22) C.1 C.2.1 dX1_usable_11 (by decide) ?_
    exact m_iret C Wd hf dX1_usable_22
set_option maxHeartbeats 4000000 in
set_option maxRecDepth 100000 in
theorem cM_isData (l : Launch) (D : va_G) (ad : MA) (v1 : Int32) (v2 : Int32) : m_Mi l D yX1_isData cX1_isData 3 (some .boolean) { frames := 3, cells := 0, slots := 0, locals := 66 } ad [.ref (m_h ad), .int v1, .int v2] (fun σ post => wM_isData (m_lim ad) σ v1 v2 post) := by
  refine m_ofi ⟨by decide, rfl, Nat.le_of_ble_eq_true rfl⟩ (fun {p e s m args below meth c σ A post ls} C Wd hf hl => ?_)
  replace hl : lv_has ls 3 [(0, .ref (m_h ad)), (1, .int v1), (2, .int v2)] := hl
  refine lv_iload_n C.1 C.2.1 dX1_isData_0 rfl (lv_at hl 2 rfl) ?_
  refine lv_if_lt (tgt := 17) C.1 C.2.1 dX1_isData_1 (by decide) (fun hc => ?_) (fun hc => ?_)
  · replace hf := hf.1 hc
    refine lv_iconst (v := 0) C.1 C.2.1 dX1_isData_17 (by decide) ?_
    exact m_zret C Wd (by decide) hf dX1_isData_18
  · replace hf := hf.2 hc
    refine lv_iload_n C.1 C.2.1 dX1_isData_4 rfl (lv_at hl 2 rfl) ?_
    refine lv_aload_n C.1 C.2.1 dX1_isData_5 rfl (lv_at hl 0 rfl) ?_
    refine lv_iload_n C.1 C.2.1 dX1_isData_6 rfl (lv_at hl 1 rfl) ?_
    refine m_calliv (As := [.int v1]) (rest := [.int v2]) C Wd (cM_usable l D ad v1) sM_usable (by decide) rfl hl.1 rfl (Nat.le_of_ble_eq_true rfl) (by decide) dX1_isData_7 hf (fun r7 σ7 H locs hf Wd => ?_)
    refine lv_icmp_ge (tgt := 17) C.1 C.2.1 dX1_isData_10 (by decide) (fun hc => ?_) (fun hc => ?_)
    · replace hf := hf.1 hc
      refine lv_iconst (v := 0) C.1 C.2.1 dX1_isData_17 (by decide) ?_
      exact m_zret C Wd (by decide) hf dX1_isData_18
    · replace hf := hf.2 hc
      refine lv_iconst (v := 1) C.1 C.2.1 dX1_isData_13 (by decide) ?_
      refine lv_goto (tgt := 18) C.1 C.2.1 dX1_isData_14 (by decide) ?_
      exact m_zret C Wd (by decide) hf dX1_isData_18
set_option maxHeartbeats 4000000 in
set_option maxRecDepth 100000 in
theorem cM_read (l : Launch) (D : va_G) (ad : MA) (v1 : Int32) (v2 : Int32) : m_Mi l D yX1_read cX1_read 3 (some .int) { frames := 4, cells := 0, slots := 0, locals := 88 } ad [.ref (m_h ad), .int v1, .int v2] (fun σ post => wM_read (m_lim ad) σ v1 v2 post) := by
  refine m_ofi ⟨by decide, rfl, Nat.le_of_ble_eq_true rfl⟩ (fun {p e s m args below meth c σ A post ls} C Wd hf hl => ?_)
  replace hl : lv_has ls 3 [(0, .ref (m_h ad)), (1, .int v1), (2, .int v2)] := hl
  refine lv_aload_n C.1 C.2.1 dX1_read_0 rfl (lv_at hl 0 rfl) ?_
  refine lv_iload_n C.1 C.2.1 dX1_read_1 rfl (lv_at hl 1 rfl) ?_
  refine lv_iload_n C.1 C.2.1 dX1_read_2 rfl (lv_at hl 2 rfl) ?_
  refine m_calliv (As := [.int v1, .int v2]) (rest := []) C Wd (cM_isData l D ad v1 v2) sM_isData (by decide) rfl hl.1 rfl (Nat.le_of_ble_eq_true rfl) (by decide) dX1_read_3 hf (fun r3 σ3 H locs hf Wd => ?_)
  refine lv_if_eq (tgt := 20) C.1 C.2.1 dX1_read_6 (by decide) (fun hc => ?_) (fun hc => ?_)
  · replace hf := hf.1 hc
    refine lv_iconst (v := 0) C.1 C.2.1 dX1_read_20 (by decide) ?_
    exact m_iret C Wd hf dX1_read_21
  · replace hf := hf.2 hc
    refine lv_aload_n C.1 C.2.1 dX1_read_9 rfl (lv_at hl 0 rfl) ?_
    refine m_get_un C Wd dX1_read_10 ?_
    refine lv_iload_n C.1 C.2.1 dX1_read_13 rfl (lv_at hl 1 rfl) ?_
    refine lv_iload_n C.1 C.2.1 dX1_read_14 rfl (lv_at hl 2 rfl) ?_
    refine lv_iadd C.1 C.2.1 dX1_read_15 ?_
    refine m_ald_un C Wd hf.1 dX1_read_16 ?_
    replace hf := hf.2
    refine lv_goto (tgt := 21) C.1 C.2.1 dX1_read_17 (by decide) ?_
    exact m_iret C Wd hf dX1_read_21
set_option maxHeartbeats 4000000 in
set_option maxRecDepth 100000 in
theorem cM_write (l : Launch) (D : va_G) (ad : MA) (v1 : Int32) (v2 : Int32) (v3 : Int32) : m_Mi l D yX1_write cX1_write 4 (some .boolean) { frames := 4, cells := 0, slots := 0, locals := 88 } ad [.ref (m_h ad), .int v1, .int v2, .int v3] (fun σ post => wM_write (m_lim ad) σ v1 v2 v3 post) := by
  refine m_ofi ⟨by decide, rfl, Nat.le_of_ble_eq_true rfl⟩ (fun {p e s m args below meth c σ A post ls} C Wd hf hl => ?_)
  replace hl : lv_has ls 4 [(0, .ref (m_h ad)), (1, .int v1), (2, .int v2), (3, .int v3)] := hl
  refine lv_aload_n C.1 C.2.1 dX1_write_0 rfl (lv_at hl 0 rfl) ?_
  refine lv_iload_n C.1 C.2.1 dX1_write_1 rfl (lv_at hl 1 rfl) ?_
  refine lv_iload_n C.1 C.2.1 dX1_write_2 rfl (lv_at hl 2 rfl) ?_
  refine m_calliv (As := [.int v1, .int v2]) (rest := []) C Wd (cM_isData l D ad v1 v2) sM_isData (by decide) rfl hl.1 rfl (Nat.le_of_ble_eq_true rfl) (by decide) dX1_write_3 hf (fun r3 σ3 H locs hf Wd => ?_)
  refine lv_if_ne (tgt := 11) C.1 C.2.1 dX1_write_6 (by decide) (fun hc => ?_) (fun hc => ?_)
  · replace hf := hf.1 hc
    refine lv_aload_n C.1 C.2.1 dX1_write_11 rfl (lv_at hl 0 rfl) ?_
    refine m_get_un C Wd dX1_write_12 ?_
    refine lv_iload_n C.1 C.2.1 dX1_write_15 rfl (lv_at hl 1 rfl) ?_
    refine lv_iload_n C.1 C.2.1 dX1_write_16 rfl (lv_at hl 2 rfl) ?_
    refine lv_iadd C.1 C.2.1 dX1_write_17 ?_
    refine lv_iload_n C.1 C.2.1 dX1_write_18 rfl (lv_at hl 3 rfl) ?_
    refine m_ast_un C Wd hf.1 dX1_write_19 (fun H locs Wd => ?_)
    replace hf := hf.2
    refine lv_iconst (v := 1) C.1 C.2.1 dX1_write_20 (by decide) ?_
    exact m_zret C Wd (by decide) hf dX1_write_21
  · replace hf := hf.2 hc
    refine lv_iconst (v := 0) C.1 C.2.1 dX1_write_9 (by decide) ?_
    exact m_zret C Wd (by decide) hf dX1_write_10
set_option maxHeartbeats 4000000 in
set_option maxRecDepth 100000 in
theorem cM_size (l : Launch) (D : va_G) (ad : MA) (v1 : Int32) : m_Mi l D yX1_size cX1_size 3 (some .int) { frames := 1, cells := 0, slots := 0, locals := 22 } ad [.ref (m_h ad), .int v1] (fun σ post => wM_size (m_lim ad) σ v1 post) := by
  refine m_ofi ⟨by decide, rfl, Nat.le_of_ble_eq_true rfl⟩ (fun {p e s m args below meth c σ A post ls} C Wd hf hl => ?_)
  replace hl : lv_has ls 3 [(0, .ref (m_h ad)), (1, .int v1)] := hl
  refine lv_aload_n C.1 C.2.1 dX1_size_0 rfl (lv_at hl 0 rfl) ?_
  refine lv_iload_n C.1 C.2.1 dX1_size_1 rfl (lv_at hl 1 rfl) ?_
  refine m_calliv (As := [.int v1]) (rest := []) C Wd (cM_at l D ad v1) sM_at (by decide) rfl hl.1 rfl (Nat.le_of_ble_eq_true rfl) (by decide) dX1_size_2 hf (fun r2 σ2 H locs hf Wd => ?_)
  refine lv_istore_n (lv' := [(2, .int r2), (0, .ref (m_h ad)), (1, .int v1)]) C.1 C.2.1 dX1_size_5 rfl hl (by decide) rfl (fun ls hl => ?_)
  refine lv_iload_n C.1 C.2.1 dX1_size_6 rfl (lv_at hl 0 rfl) ?_
  refine lv_if_ge (tgt := 14) C.1 C.2.1 dX1_size_7 (by decide) (fun hc => ?_) (fun hc => ?_)
  · replace hf := hf.1 hc
    refine lv_aload_n C.1 C.2.1 dX1_size_14 rfl (lv_at hl 1 rfl) ?_
    refine m_get_sz C Wd dX1_size_15 ?_
    refine lv_iload_n C.1 C.2.1 dX1_size_18 rfl (lv_at hl 0 rfl) ?_
    refine m_ald_sz C Wd hf.1 dX1_size_19 ?_
    replace hf := hf.2
    exact m_iret C Wd hf dX1_size_20
  · replace hf := hf.2 hc
    refine lv_iconst (v := (-1)) C.1 C.2.1 dX1_size_10 (by decide) ?_
    refine lv_goto (tgt := 20) C.1 C.2.1 dX1_size_11 (by decide) ?_
    exact m_iret C Wd hf dX1_size_20
set_option maxHeartbeats 4000000 in
set_option maxRecDepth 100000 in
theorem cM_state (l : Launch) (D : va_G) (ad : MA) (v1 : Int32) : m_Mi l D yX1_state cX1_state 3 (some .int) { frames := 1, cells := 0, slots := 0, locals := 22 } ad [.ref (m_h ad), .int v1] (fun σ post => wM_state (m_lim ad) σ v1 post) := by
  refine m_ofi ⟨by decide, rfl, Nat.le_of_ble_eq_true rfl⟩ (fun {p e s m args below meth c σ A post ls} C Wd hf hl => ?_)
  replace hl : lv_has ls 3 [(0, .ref (m_h ad)), (1, .int v1)] := hl
  refine lv_aload_n C.1 C.2.1 dX1_state_0 rfl (lv_at hl 0 rfl) ?_
  refine lv_iload_n C.1 C.2.1 dX1_state_1 rfl (lv_at hl 1 rfl) ?_
  refine m_calliv (As := [.int v1]) (rest := []) C Wd (cM_at l D ad v1) sM_at (by decide) rfl hl.1 rfl (Nat.le_of_ble_eq_true rfl) (by decide) dX1_state_2 hf (fun r2 σ2 H locs hf Wd => ?_)
  refine lv_istore_n (lv' := [(2, .int r2), (0, .ref (m_h ad)), (1, .int v1)]) C.1 C.2.1 dX1_state_5 rfl hl (by decide) rfl (fun ls hl => ?_)
  refine lv_iload_n C.1 C.2.1 dX1_state_6 rfl (lv_at hl 0 rfl) ?_
  refine lv_if_ge (tgt := 14) C.1 C.2.1 dX1_state_7 (by decide) (fun hc => ?_) (fun hc => ?_)
  · replace hf := hf.1 hc
    refine lv_aload_n C.1 C.2.1 dX1_state_14 rfl (lv_at hl 1 rfl) ?_
    refine lv_iload_n C.1 C.2.1 dX1_state_15 rfl (lv_at hl 0 rfl) ?_
    refine m_calliv (As := [.int r2]) (rest := []) C Wd (cM_stateOf l D ad r2) sM_stateOf (by decide) rfl hl.1 rfl (Nat.le_of_ble_eq_true rfl) (by decide) dX1_state_16 hf (fun r16 σ16 H locs hf Wd => ?_)
    exact m_iret C Wd hf dX1_state_19
  · replace hf := hf.2 hc
    refine lv_iconst (v := (-1)) C.1 C.2.1 dX1_state_10 (by decide) ?_
    refine lv_goto (tgt := 19) C.1 C.2.1 dX1_state_11 (by decide) ?_
    exact m_iret C Wd hf dX1_state_19
