set_option maxHeartbeats 4000000 in
set_option maxRecDepth 100000 in
theorem bM_count_26_f {p : Program} {l : Launch} {e : Env} {s : State} {m : MethodId} {args : Array Value} {below : List Frame} {meth : Method} {c : Code} {D : va_G} {ad : MA} {A : Nat → Prop} (C : m_C p s m args meth c cX1_count 6 (some .int)) {post : Int32 → MS → Prop} : ∀ (f : Nat) (σ : MS) (H : Heap) (locs : List Loc) (ls : Array Slot) (v1 : Int32) (v2 : Int32) (v3 : Int32), m_W D ad σ A s H locs → wM_count_26 (m_lim ad) post f σ v1 v2 v3 → lv_has ls 6 [(0, .ref (m_h ad)), (1, .int v1), (2, .int v2), (3, .int v3)] → W p l e { frames := 1, cells := 0, slots := 0, locals := 21 } s m args below meth c H locs 0 0 (m_Qi below D ad A args s post) (F0 m 26 ls []) := by
  intro f
  induction f with
  | zero => intro σ H locs ls v1 v2 v3 Wd hf hl; exact False.elim hf
  | succ f ih =>
    intro σ H locs ls v1 v2 v3 Wd hf hl
    replace hf : wM_count_26_s (m_lim ad) post (wM_count_26 (m_lim ad) post f) σ v1 v2 v3 := hf
    refine lv_iload_n C.1 C.2.1 dX1_count_26 rfl (lv_at hl 3 rfl) ?_
    refine lv_aload_n C.1 C.2.1 dX1_count_27 rfl (lv_at hl 0 rfl) ?_
    refine m_get_ch C Wd dX1_count_28 ?_
    refine lv_icmp_ge (tgt := 120) C.1 C.2.1 dX1_count_31 (by decide) (fun hc => ?_) (fun hc => ?_)
    · replace hf := hf.1 hc
      refine lv_iload_n C.1 C.2.1 dX1_count_120 rfl (lv_at hl 2 rfl) ?_
      exact m_iret C Wd hf dX1_count_121
    · replace hf := hf.2 hc
      refine lv_aload_n C.1 C.2.1 dX1_count_34 rfl (lv_at hl 0 rfl) ?_
      refine lv_iload_n C.1 C.2.1 dX1_count_35 rfl (lv_at hl 3 rfl) ?_
      refine m_calliv (As := [.int v3]) (rest := []) C Wd (cM_stateOf l D ad v3) sM_stateOf (by decide) rfl hl.1 rfl (Nat.le_of_ble_eq_true rfl) (by decide) dX1_count_36 hf (fun r36 σ36 H locs hf Wd => ?_)
      refine lv_istore (lv' := [(4, .int r36), (0, .ref (m_h ad)), (1, .int v1), (2, .int v2), (3, .int v3)]) C.1 C.2.1 dX1_count_39 hl (by decide) rfl (fun ls hl => ?_)
      refine lv_iload_n C.1 C.2.1 dX1_count_41 rfl (lv_at hl 2 rfl) ?_
      refine lv_if_ne (tgt := 58) C.1 C.2.1 dX1_count_42 (by decide) (fun hc => ?_) (fun hc => ?_)
      · replace hf := hf.1 hc
        refine lv_iload_n C.1 C.2.1 dX1_count_58 rfl (lv_at hl 2 rfl) ?_
        refine lv_bipush (v := 16) C.1 C.2.1 dX1_count_59 (by decide) ?_
        refine lv_icmp_ne (tgt := 78) C.1 C.2.1 dX1_count_61 (by decide) (fun hc => ?_) (fun hc => ?_)
        · replace hf := hf.1 hc
          refine lv_iload C.1 C.2.1 dX1_count_78 (lv_at hl 0 rfl) ?_
          refine lv_iconst (v := 1) C.1 C.2.1 dX1_count_80 (by decide) ?_
          refine lv_icmp_ne (tgt := 98) C.1 C.2.1 dX1_count_81 (by decide) (fun hc => ?_) (fun hc => ?_)
          · replace hf := hf.1 hc
            refine lv_iconst (v := 0) C.1 C.2.1 dX1_count_98 (by decide) ?_
            refine lv_istore (lv' := [(5, .int 0), (4, .int r36), (0, .ref (m_h ad)), (1, .int v1), (2, .int v2), (3, .int v3)]) C.1 C.2.1 dX1_count_99 hl (by decide) rfl (fun ls hl => ?_)
            refine lv_iload C.1 C.2.1 dX1_count_101 (lv_at hl 0 rfl) ?_
            refine lv_if_eq (tgt := 112) C.1 C.2.1 dX1_count_103 (by decide) (fun _ => ?_) (fun hc => absurd hc (by decide))
            refine lv_iload_n C.1 C.2.1 dX1_count_112 rfl (lv_at hl 4 rfl) ?_
            refine lv_istore_n (lv' := [(2, .int v2), (5, .int 0), (4, .int r36), (0, .ref (m_h ad)), (1, .int v1), (3, .int v3)]) C.1 C.2.1 dX1_count_113 rfl hl (by decide) rfl (fun ls hl => ?_)
            refine lv_iinc (v := v3 + 1) (lv' := [(3, .int (v3 + 1)), (2, .int v2), (5, .int 0), (4, .int r36), (0, .ref (m_h ad)), (1, .int v1)]) C.1 C.2.1 dX1_count_114 hl (k := 5) rfl rfl (by decide) rfl (fun ls hl => ?_)
            refine lv_goto (tgt := 26) C.1 C.2.1 dX1_count_117 (by decide) ?_
            exact ih _ _ _ _ _ _ _  Wd hf (lv_sub hl [4, 5, 1, 0] rfl)
          · replace hf := hf.2 hc
            refine lv_aload_n C.1 C.2.1 dX1_count_84 rfl (lv_at hl 1 rfl) ?_
            refine m_get_sz C Wd dX1_count_85 ?_
            refine lv_iload_n C.1 C.2.1 dX1_count_88 rfl (lv_at hl 4 rfl) ?_
            refine m_ald_sz C Wd hf.1 dX1_count_89 ?_
            replace hf := hf.2
            refine lv_iload_n C.1 C.2.1 dX1_count_90 rfl (lv_at hl 2 rfl) ?_
            refine lv_icmp_ne (tgt := 98) C.1 C.2.1 dX1_count_91 (by decide) (fun hc => ?_) (fun hc => ?_)
            · replace hf := hf.1 hc
              refine lv_iconst (v := 0) C.1 C.2.1 dX1_count_98 (by decide) ?_
              refine lv_istore (lv' := [(5, .int 0), (4, .int r36), (0, .ref (m_h ad)), (1, .int v1), (2, .int v2), (3, .int v3)]) C.1 C.2.1 dX1_count_99 hl (by decide) rfl (fun ls hl => ?_)
              refine lv_iload C.1 C.2.1 dX1_count_101 (lv_at hl 0 rfl) ?_
              refine lv_if_eq (tgt := 112) C.1 C.2.1 dX1_count_103 (by decide) (fun _ => ?_) (fun hc => absurd hc (by decide))
              refine lv_iload_n C.1 C.2.1 dX1_count_112 rfl (lv_at hl 4 rfl) ?_
              refine lv_istore_n (lv' := [(2, .int v2), (5, .int 0), (4, .int r36), (0, .ref (m_h ad)), (1, .int v1), (3, .int v3)]) C.1 C.2.1 dX1_count_113 rfl hl (by decide) rfl (fun ls hl => ?_)
              refine lv_iinc (v := v3 + 1) (lv' := [(3, .int (v3 + 1)), (2, .int v2), (5, .int 0), (4, .int r36), (0, .ref (m_h ad)), (1, .int v1)]) C.1 C.2.1 dX1_count_114 hl (k := 5) rfl rfl (by decide) rfl (fun ls hl => ?_)
              refine lv_goto (tgt := 26) C.1 C.2.1 dX1_count_117 (by decide) ?_
              exact ih _ _ _ _ _ _ _  Wd hf (lv_sub hl [4, 5, 1, 0] rfl)
            · replace hf := hf.2 hc
              refine lv_iconst (v := 1) C.1 C.2.1 dX1_count_94 (by decide) ?_
              refine lv_goto (tgt := 99) C.1 C.2.1 dX1_count_95 (by decide) ?_
              refine lv_istore (lv' := [(5, .int 1), (4, .int r36), (0, .ref (m_h ad)), (1, .int v1), (2, .int v2), (3, .int v3)]) C.1 C.2.1 dX1_count_99 hl (by decide) rfl (fun ls hl => ?_)
              refine lv_iload C.1 C.2.1 dX1_count_101 (lv_at hl 0 rfl) ?_
              refine lv_if_eq (tgt := 112) C.1 C.2.1 dX1_count_103 (by decide) (fun hc => absurd hc (by decide)) (fun _ => ?_)
              refine lv_iload_n C.1 C.2.1 dX1_count_106 rfl (lv_at hl 4 rfl) ?_
              refine lv_iconst (v := 1) C.1 C.2.1 dX1_count_107 (by decide) ?_
              refine lv_iadd C.1 C.2.1 dX1_count_108 ?_
              refine lv_goto (tgt := 113) C.1 C.2.1 dX1_count_109 (by decide) ?_
              refine lv_istore_n (lv' := [(2, .int (v2 + 1)), (5, .int 1), (4, .int r36), (0, .ref (m_h ad)), (1, .int v1), (3, .int v3)]) C.1 C.2.1 dX1_count_113 rfl hl (by decide) rfl (fun ls hl => ?_)
              refine lv_iinc (v := v3 + 1) (lv' := [(3, .int (v3 + 1)), (2, .int (v2 + 1)), (5, .int 1), (4, .int r36), (0, .ref (m_h ad)), (1, .int v1)]) C.1 C.2.1 dX1_count_114 hl (k := 5) rfl rfl (by decide) rfl (fun ls hl => ?_)
              refine lv_goto (tgt := 26) C.1 C.2.1 dX1_count_117 (by decide) ?_
              exact ih _ _ _ _ _ _ _  Wd hf (lv_sub hl [4, 5, 1, 0] rfl)
        · replace hf := hf.2 hc
          refine lv_iload C.1 C.2.1 dX1_count_64 (lv_at hl 0 rfl) ?_
          refine lv_iconst (v := 2) C.1 C.2.1 dX1_count_66 (by decide) ?_
          refine lv_icmp_ne (tgt := 74) C.1 C.2.1 dX1_count_67 (by decide) (fun hc => ?_) (fun hc => ?_)
          · replace hf := hf.1 hc
            refine lv_iconst (v := 0) C.1 C.2.1 dX1_count_74 (by decide) ?_
            refine lv_goto (tgt := 99) C.1 C.2.1 dX1_count_75 (by decide) ?_
            refine lv_istore (lv' := [(5, .int 0), (4, .int r36), (0, .ref (m_h ad)), (1, .int v1), (2, .int v2), (3, .int v3)]) C.1 C.2.1 dX1_count_99 hl (by decide) rfl (fun ls hl => ?_)
            refine lv_iload C.1 C.2.1 dX1_count_101 (lv_at hl 0 rfl) ?_
            refine lv_if_eq (tgt := 112) C.1 C.2.1 dX1_count_103 (by decide) (fun _ => ?_) (fun hc => absurd hc (by decide))
            refine lv_iload_n C.1 C.2.1 dX1_count_112 rfl (lv_at hl 4 rfl) ?_
            refine lv_istore_n (lv' := [(2, .int v2), (5, .int 0), (4, .int r36), (0, .ref (m_h ad)), (1, .int v1), (3, .int v3)]) C.1 C.2.1 dX1_count_113 rfl hl (by decide) rfl (fun ls hl => ?_)
            refine lv_iinc (v := v3 + 1) (lv' := [(3, .int (v3 + 1)), (2, .int v2), (5, .int 0), (4, .int r36), (0, .ref (m_h ad)), (1, .int v1)]) C.1 C.2.1 dX1_count_114 hl (k := 5) rfl rfl (by decide) rfl (fun ls hl => ?_)
            refine lv_goto (tgt := 26) C.1 C.2.1 dX1_count_117 (by decide) ?_
            exact ih _ _ _ _ _ _ _  Wd hf (lv_sub hl [4, 5, 1, 0] rfl)
          · replace hf := hf.2 hc
            refine lv_iconst (v := 1) C.1 C.2.1 dX1_count_70 (by decide) ?_
            refine lv_goto (tgt := 99) C.1 C.2.1 dX1_count_71 (by decide) ?_
            refine lv_istore (lv' := [(5, .int 1), (4, .int r36), (0, .ref (m_h ad)), (1, .int v1), (2, .int v2), (3, .int v3)]) C.1 C.2.1 dX1_count_99 hl (by decide) rfl (fun ls hl => ?_)
            refine lv_iload C.1 C.2.1 dX1_count_101 (lv_at hl 0 rfl) ?_
            refine lv_if_eq (tgt := 112) C.1 C.2.1 dX1_count_103 (by decide) (fun hc => absurd hc (by decide)) (fun _ => ?_)
            refine lv_iload_n C.1 C.2.1 dX1_count_106 rfl (lv_at hl 4 rfl) ?_
            refine lv_iconst (v := 1) C.1 C.2.1 dX1_count_107 (by decide) ?_
            refine lv_iadd C.1 C.2.1 dX1_count_108 ?_
            refine lv_goto (tgt := 113) C.1 C.2.1 dX1_count_109 (by decide) ?_
            refine lv_istore_n (lv' := [(2, .int (v2 + 1)), (5, .int 1), (4, .int r36), (0, .ref (m_h ad)), (1, .int v1), (3, .int v3)]) C.1 C.2.1 dX1_count_113 rfl hl (by decide) rfl (fun ls hl => ?_)
            refine lv_iinc (v := v3 + 1) (lv' := [(3, .int (v3 + 1)), (2, .int (v2 + 1)), (5, .int 1), (4, .int r36), (0, .ref (m_h ad)), (1, .int v1)]) C.1 C.2.1 dX1_count_114 hl (k := 5) rfl rfl (by decide) rfl (fun ls hl => ?_)
            refine lv_goto (tgt := 26) C.1 C.2.1 dX1_count_117 (by decide) ?_
            exact ih _ _ _ _ _ _ _  Wd hf (lv_sub hl [4, 5, 1, 0] rfl)
      · replace hf := hf.2 hc
        refine lv_iload C.1 C.2.1 dX1_count_45 (lv_at hl 0 rfl) ?_
        refine lv_if_ne (tgt := 54) C.1 C.2.1 dX1_count_47 (by decide) (fun hc => ?_) (fun hc => ?_)
        · replace hf := hf.1 hc
          refine lv_iconst (v := 0) C.1 C.2.1 dX1_count_54 (by decide) ?_
          refine lv_goto (tgt := 99) C.1 C.2.1 dX1_count_55 (by decide) ?_
          refine lv_istore (lv' := [(5, .int 0), (4, .int r36), (0, .ref (m_h ad)), (1, .int v1), (2, .int v2), (3, .int v3)]) C.1 C.2.1 dX1_count_99 hl (by decide) rfl (fun ls hl => ?_)
          refine lv_iload C.1 C.2.1 dX1_count_101 (lv_at hl 0 rfl) ?_
          refine lv_if_eq (tgt := 112) C.1 C.2.1 dX1_count_103 (by decide) (fun _ => ?_) (fun hc => absurd hc (by decide))
          refine lv_iload_n C.1 C.2.1 dX1_count_112 rfl (lv_at hl 4 rfl) ?_
          refine lv_istore_n (lv' := [(2, .int v2), (5, .int 0), (4, .int r36), (0, .ref (m_h ad)), (1, .int v1), (3, .int v3)]) C.1 C.2.1 dX1_count_113 rfl hl (by decide) rfl (fun ls hl => ?_)
          refine lv_iinc (v := v3 + 1) (lv' := [(3, .int (v3 + 1)), (2, .int v2), (5, .int 0), (4, .int r36), (0, .ref (m_h ad)), (1, .int v1)]) C.1 C.2.1 dX1_count_114 hl (k := 5) rfl rfl (by decide) rfl (fun ls hl => ?_)
          refine lv_goto (tgt := 26) C.1 C.2.1 dX1_count_117 (by decide) ?_
          exact ih _ _ _ _ _ _ _  Wd hf (lv_sub hl [4, 5, 1, 0] rfl)
        · replace hf := hf.2 hc
          refine lv_iconst (v := 1) C.1 C.2.1 dX1_count_50 (by decide) ?_
          refine lv_goto (tgt := 99) C.1 C.2.1 dX1_count_51 (by decide) ?_
          refine lv_istore (lv' := [(5, .int 1), (4, .int r36), (0, .ref (m_h ad)), (1, .int v1), (2, .int v2), (3, .int v3)]) C.1 C.2.1 dX1_count_99 hl (by decide) rfl (fun ls hl => ?_)
          refine lv_iload C.1 C.2.1 dX1_count_101 (lv_at hl 0 rfl) ?_
          refine lv_if_eq (tgt := 112) C.1 C.2.1 dX1_count_103 (by decide) (fun hc => absurd hc (by decide)) (fun _ => ?_)
          refine lv_iload_n C.1 C.2.1 dX1_count_106 rfl (lv_at hl 4 rfl) ?_
          refine lv_iconst (v := 1) C.1 C.2.1 dX1_count_107 (by decide) ?_
          refine lv_iadd C.1 C.2.1 dX1_count_108 ?_
          refine lv_goto (tgt := 113) C.1 C.2.1 dX1_count_109 (by decide) ?_
          refine lv_istore_n (lv' := [(2, .int (v2 + 1)), (5, .int 1), (4, .int r36), (0, .ref (m_h ad)), (1, .int v1), (3, .int v3)]) C.1 C.2.1 dX1_count_113 rfl hl (by decide) rfl (fun ls hl => ?_)
          refine lv_iinc (v := v3 + 1) (lv' := [(3, .int (v3 + 1)), (2, .int (v2 + 1)), (5, .int 1), (4, .int r36), (0, .ref (m_h ad)), (1, .int v1)]) C.1 C.2.1 dX1_count_114 hl (k := 5) rfl rfl (by decide) rfl (fun ls hl => ?_)
          refine lv_goto (tgt := 26) C.1 C.2.1 dX1_count_117 (by decide) ?_
          exact ih _ _ _ _ _ _ _  Wd hf (lv_sub hl [4, 5, 1, 0] rfl)
theorem bM_count_26 {p : Program} {l : Launch} {e : Env} {s : State} {m : MethodId} {args : Array Value} {below : List Frame} {meth : Method} {c : Code} {D : va_G} {ad : MA} {A : Nat → Prop} (C : m_C p s m args meth c cX1_count 6 (some .int)) {post : Int32 → MS → Prop} {σ : MS} {H : Heap} {locs : List Loc} {ls : Array Slot} {v1 : Int32} {v2 : Int32} {v3 : Int32} (Wd : m_W D ad σ A s H locs) (hf : ∃ f : Nat, wM_count_26 (m_lim ad) post f σ v1 v2 v3) (hl : lv_has ls 6 [(0, .ref (m_h ad)), (1, .int v1), (2, .int v2), (3, .int v3)]) : W p l e { frames := 1, cells := 0, slots := 0, locals := 21 } s m args below meth c H locs 0 0 (m_Qi below D ad A args s post) (F0 m 26 ls []) := by
  obtain ⟨f, hf⟩ := hf
  exact bM_count_26_f C f σ H locs ls v1 v2 v3 Wd hf hl
set_option maxHeartbeats 4000000 in
set_option maxRecDepth 100000 in
theorem cM_count (l : Launch) (D : va_G) (ad : MA) (v1 : Int32) : m_Mi l D yX1_count cX1_count 6 (some .int) { frames := 1, cells := 0, slots := 0, locals := 21 } ad [.ref (m_h ad), .int v1] (fun σ post => wM_count (m_lim ad) σ v1 post) := by
  refine m_ofi ⟨by decide, rfl, Nat.le_of_ble_eq_true rfl⟩ (fun {p e s m args below meth c σ A post ls} C Wd hf hl => ?_)
  replace hl : lv_has ls 6 [(0, .ref (m_h ad)), (1, .int v1)] := hl
  refine lv_iload_n C.1 C.2.1 dX1_count_0 rfl (lv_at hl 1 rfl) ?_
  refine lv_if_lt (tgt := 10) C.1 C.2.1 dX1_count_1 (by decide) (fun hc => ?_) (fun hc => ?_)
  · replace hf := hf.1 hc
    refine lv_iconst (v := (-1)) C.1 C.2.1 dX1_count_10 (by decide) ?_
    exact m_iret C Wd hf dX1_count_11
  · replace hf := hf.2 hc
    refine lv_iload_n C.1 C.2.1 dX1_count_4 rfl (lv_at hl 1 rfl) ?_
    refine lv_bipush (v := 16) C.1 C.2.1 dX1_count_5 (by decide) ?_
    refine lv_icmp_le (tgt := 12) C.1 C.2.1 dX1_count_7 (by decide) (fun hc => ?_) (fun hc => ?_)
    · replace hf := hf.1 hc
      refine lv_iload_n C.1 C.2.1 dX1_count_12 rfl (lv_at hl 1 rfl) ?_
      refine lv_iconst (v := 1) C.1 C.2.1 dX1_count_13 (by decide) ?_
      refine lv_icmp_ne (tgt := 22) C.1 C.2.1 dX1_count_14 (by decide) (fun hc => ?_) (fun hc => ?_)
      · replace hf := hf.1 hc
        refine lv_iconst (v := 0) C.1 C.2.1 dX1_count_22 (by decide) ?_
        refine lv_istore_n (lv' := [(2, .int 0), (0, .ref (m_h ad)), (1, .int v1)]) C.1 C.2.1 dX1_count_23 rfl hl (by decide) rfl (fun ls hl => ?_)
        refine lv_iconst (v := 0) C.1 C.2.1 dX1_count_24 (by decide) ?_
        refine lv_istore_n (lv' := [(3, .int 0), (2, .int 0), (0, .ref (m_h ad)), (1, .int v1)]) C.1 C.2.1 dX1_count_25 rfl hl (by decide) rfl (fun ls hl => ?_)
        exact bM_count_26 C Wd hf (lv_sub hl [2, 3, 1, 0] rfl)
      · replace hf := hf.2 hc
        refine lv_aload_n C.1 C.2.1 dX1_count_17 rfl (lv_at hl 0 rfl) ?_
        refine m_get_ch C Wd dX1_count_18 ?_
        exact m_iret C Wd hf dX1_count_21
    · replace hf := hf.2 hc
      refine lv_iconst (v := (-1)) C.1 C.2.1 dX1_count_10 (by decide) ?_
      exact m_iret C Wd hf dX1_count_11
set_option maxHeartbeats 4000000 in
set_option maxRecDepth 100000 in
theorem cM_end (l : Launch) (D : va_G) (ad : MA) : m_Mi l D yX1_end cX1_end 1 (some .int) { frames := 0, cells := 0, slots := 0, locals := 0 } ad [.ref (m_h ad)] (fun σ post => wM_end (m_lim ad) σ  post) := by
  refine m_ofi ⟨by decide, rfl, Nat.le_of_ble_eq_true rfl⟩ (fun {p e s m args below meth c σ A post ls} C Wd hf hl => ?_)
  replace hl : lv_has ls 1 [(0, .ref (m_h ad))] := hl
  refine lv_aload_n C.1 C.2.1 dX1_end_0 rfl (lv_at hl 0 rfl) ?_
  refine m_get_en C Wd dX1_end_1 ?_
  exact m_iret C Wd hf dX1_end_4
set_option maxHeartbeats 4000000 in
set_option maxRecDepth 100000 in
theorem bM_total_15_f {p : Program} {l : Launch} {e : Env} {s : State} {m : MethodId} {args : Array Value} {below : List Frame} {meth : Method} {c : Code} {D : va_G} {ad : MA} {A : Nat → Prop} (C : m_C p s m args meth c cX1_total 4 (some .int)) {post : Int32 → MS → Prop} : ∀ (f : Nat) (σ : MS) (H : Heap) (locs : List Loc) (ls : Array Slot) (v1 : Int32) (v2 : Int32) (v3 : Int32), m_W D ad σ A s H locs → wM_total_15 (m_lim ad) post f σ v1 v2 v3 → lv_has ls 4 [(0, .ref (m_h ad)), (1, .int v1), (2, .int v2), (3, .int v3)] → W p l e { frames := 1, cells := 0, slots := 0, locals := 21 } s m args below meth c H locs 0 0 (m_Qi below D ad A args s post) (F0 m 15 ls []) := by
  intro f
  induction f with
  | zero => intro σ H locs ls v1 v2 v3 Wd hf hl; exact False.elim hf
  | succ f ih =>
    intro σ H locs ls v1 v2 v3 Wd hf hl
    replace hf : wM_total_15_s (m_lim ad) post (wM_total_15 (m_lim ad) post f) σ v1 v2 v3 := hf
    refine lv_iload_n C.1 C.2.1 dX1_total_15 rfl (lv_at hl 3 rfl) ?_
    refine lv_aload_n C.1 C.2.1 dX1_total_16 rfl (lv_at hl 0 rfl) ?_
    refine m_get_ch C Wd dX1_total_17 ?_
    refine lv_icmp_ge (tgt := 51) C.1 C.2.1 dX1_total_20 (by decide) (fun hc => ?_) (fun hc => ?_)
    · replace hf := hf.1 hc
      refine lv_iload_n C.1 C.2.1 dX1_total_51 rfl (lv_at hl 2 rfl) ?_
      exact m_iret C Wd hf dX1_total_52
    · replace hf := hf.2 hc
      refine lv_aload_n C.1 C.2.1 dX1_total_23 rfl (lv_at hl 0 rfl) ?_
      refine lv_iload_n C.1 C.2.1 dX1_total_24 rfl (lv_at hl 3 rfl) ?_
      refine m_calliv (As := [.int v3]) (rest := []) C Wd (cM_stateOf l D ad v3) sM_stateOf (by decide) rfl hl.1 rfl (Nat.le_of_ble_eq_true rfl) (by decide) dX1_total_25 hf (fun r25 σ25 H locs hf Wd => ?_)
      refine lv_iload_n C.1 C.2.1 dX1_total_28 rfl (lv_at hl 1 rfl) ?_
      refine lv_icmp_ne (tgt := 43) C.1 C.2.1 dX1_total_29 (by decide) (fun hc => ?_) (fun hc => ?_)
      · replace hf := hf.1 hc
        refine lv_iload_n C.1 C.2.1 dX1_total_43 rfl (lv_at hl 2 rfl) ?_
        refine lv_istore_n (lv' := [(2, .int v2), (0, .ref (m_h ad)), (1, .int v1), (3, .int v3)]) C.1 C.2.1 dX1_total_44 rfl hl (by decide) rfl (fun ls hl => ?_)
        refine lv_iinc (v := v3 + 1) (lv' := [(3, .int (v3 + 1)), (2, .int v2), (0, .ref (m_h ad)), (1, .int v1)]) C.1 C.2.1 dX1_total_45 hl (k := 3) rfl rfl (by decide) rfl (fun ls hl => ?_)
        refine lv_goto (tgt := 15) C.1 C.2.1 dX1_total_48 (by decide) ?_
        exact ih _ _ _ _ _ _ _  Wd hf (lv_sub hl [2, 3, 1, 0] rfl)
      · replace hf := hf.2 hc
        refine lv_iload_n C.1 C.2.1 dX1_total_32 rfl (lv_at hl 2 rfl) ?_
        refine lv_aload_n C.1 C.2.1 dX1_total_33 rfl (lv_at hl 0 rfl) ?_
        refine m_get_sz C Wd dX1_total_34 ?_
        refine lv_iload_n C.1 C.2.1 dX1_total_37 rfl (lv_at hl 3 rfl) ?_
        refine m_ald_sz C Wd hf.1 dX1_total_38 ?_
        replace hf := hf.2
        refine lv_iadd C.1 C.2.1 dX1_total_39 ?_
        refine lv_goto (tgt := 44) C.1 C.2.1 dX1_total_40 (by decide) ?_
        refine lv_istore_n (lv' := [(2, .int (v2 + (m_sz σ25 v3.toNatClampNeg))), (0, .ref (m_h ad)), (1, .int v1), (3, .int v3)]) C.1 C.2.1 dX1_total_44 rfl hl (by decide) rfl (fun ls hl => ?_)
        refine lv_iinc (v := v3 + 1) (lv' := [(3, .int (v3 + 1)), (2, .int (v2 + (m_sz σ25 v3.toNatClampNeg))), (0, .ref (m_h ad)), (1, .int v1)]) C.1 C.2.1 dX1_total_45 hl (k := 3) rfl rfl (by decide) rfl (fun ls hl => ?_)
        refine lv_goto (tgt := 15) C.1 C.2.1 dX1_total_48 (by decide) ?_
        exact ih _ _ _ _ _ _ _  Wd hf (lv_sub hl [2, 3, 1, 0] rfl)
theorem bM_total_15 {p : Program} {l : Launch} {e : Env} {s : State} {m : MethodId} {args : Array Value} {below : List Frame} {meth : Method} {c : Code} {D : va_G} {ad : MA} {A : Nat → Prop} (C : m_C p s m args meth c cX1_total 4 (some .int)) {post : Int32 → MS → Prop} {σ : MS} {H : Heap} {locs : List Loc} {ls : Array Slot} {v1 : Int32} {v2 : Int32} {v3 : Int32} (Wd : m_W D ad σ A s H locs) (hf : ∃ f : Nat, wM_total_15 (m_lim ad) post f σ v1 v2 v3) (hl : lv_has ls 4 [(0, .ref (m_h ad)), (1, .int v1), (2, .int v2), (3, .int v3)]) : W p l e { frames := 1, cells := 0, slots := 0, locals := 21 } s m args below meth c H locs 0 0 (m_Qi below D ad A args s post) (F0 m 15 ls []) := by
  obtain ⟨f, hf⟩ := hf
  exact bM_total_15_f C f σ H locs ls v1 v2 v3 Wd hf hl
set_option maxHeartbeats 4000000 in
set_option maxRecDepth 100000 in
theorem cM_total (l : Launch) (D : va_G) (ad : MA) (v1 : Int32) : m_Mi l D yX1_total cX1_total 4 (some .int) { frames := 1, cells := 0, slots := 0, locals := 21 } ad [.ref (m_h ad), .int v1] (fun σ post => wM_total (m_lim ad) σ v1 post) := by
  refine m_ofi ⟨by decide, rfl, Nat.le_of_ble_eq_true rfl⟩ (fun {p e s m args below meth c σ A post ls} C Wd hf hl => ?_)
  replace hl : lv_has ls 4 [(0, .ref (m_h ad)), (1, .int v1)] := hl
  refine lv_iload_n C.1 C.2.1 dX1_total_0 rfl (lv_at hl 1 rfl) ?_
  refine lv_if_lt (tgt := 9) C.1 C.2.1 dX1_total_1 (by decide) (fun hc => ?_) (fun hc => ?_)
  · replace hf := hf.1 hc
    refine lv_iconst (v := (-1)) C.1 C.2.1 dX1_total_9 (by decide) ?_
    exact m_iret C Wd hf dX1_total_10
  · replace hf := hf.2 hc
    refine lv_iload_n C.1 C.2.1 dX1_total_4 rfl (lv_at hl 1 rfl) ?_
    refine lv_iconst (v := 4) C.1 C.2.1 dX1_total_5 (by decide) ?_
    refine lv_icmp_le (tgt := 11) C.1 C.2.1 dX1_total_6 (by decide) (fun hc => ?_) (fun hc => ?_)
    · replace hf := hf.1 hc
      refine lv_iconst (v := 0) C.1 C.2.1 dX1_total_11 (by decide) ?_
      refine lv_istore_n (lv' := [(2, .int 0), (0, .ref (m_h ad)), (1, .int v1)]) C.1 C.2.1 dX1_total_12 rfl hl (by decide) rfl (fun ls hl => ?_)
      refine lv_iconst (v := 0) C.1 C.2.1 dX1_total_13 (by decide) ?_
      refine lv_istore_n (lv' := [(3, .int 0), (2, .int 0), (0, .ref (m_h ad)), (1, .int v1)]) C.1 C.2.1 dX1_total_14 rfl hl (by decide) rfl (fun ls hl => ?_)
      exact bM_total_15 C Wd hf (lv_sub hl [2, 3, 1, 0] rfl)
    · replace hf := hf.2 hc
      refine lv_iconst (v := (-1)) C.1 C.2.1 dX1_total_9 (by decide) ?_
      exact m_iret C Wd hf dX1_total_10
