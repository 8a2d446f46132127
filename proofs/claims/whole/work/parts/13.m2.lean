set_option maxHeartbeats 4000000 in
set_option maxRecDepth 100000 in
theorem bM_join_97 {p : Program} {l : Launch} {e : Env} {s : State} {m : MethodId} {args : Array Value} {below : List Frame} {meth : Method} {c : Code} {D : va_G} {ad : MA} {A : Nat → Prop} (C : m_C p s m args meth c cX1_join 3 none) {post : MS → Prop} {σ : MS} {H : Heap} {locs : List Loc} {ls : Array Slot} (Wd : m_W D ad σ A s H locs) (hf : wM_join_97 (m_lim ad) σ  post) (hl : lv_has ls 3 [(0, .ref (m_h ad))]) : W p l e { frames := 0, cells := 0, slots := 0, locals := 0 } s m args below meth c H locs 0 0 (m_Qv below D ad A args s post) (F0 m 97 ls []) := by
  refine lv_aload_n C.1 C.2.1 dX1_join_97 rfl (lv_at hl 0 rfl) ?_
  refine lv_dup C.1 C.2.1 dX1_join_98 rfl ?_
  refine m_get_ch C Wd dX1_join_99 ?_
  refine lv_iconst (v := 1) C.1 C.2.1 dX1_join_102 (by decide) ?_
  refine lv_isub C.1 C.2.1 dX1_join_103 ?_
  refine m_put_ch C Wd dX1_join_104 (fun H locs Wd => ?_)
  exact m_vret C Wd hf dX1_join_107
set_option maxHeartbeats 4000000 in
set_option maxRecDepth 100000 in
theorem bM_join_25_f {p : Program} {l : Launch} {e : Env} {s : State} {m : MethodId} {args : Array Value} {below : List Frame} {meth : Method} {c : Code} {D : va_G} {ad : MA} {A : Nat → Prop} (C : m_C p s m args meth c cX1_join 3 none) {post : MS → Prop} : ∀ (f : Nat) (σ : MS) (H : Heap) (locs : List Loc) (ls : Array Slot) (v2 : Int32), m_W D ad σ A s H locs → wM_join_25 (m_lim ad) post f σ v2 → lv_has ls 3 [(0, .ref (m_h ad)), (2, .int v2)] → W p l e { frames := 0, cells := 0, slots := 0, locals := 0 } s m args below meth c H locs 0 0 (m_Qv below D ad A args s post) (F0 m 25 ls []) := by
  intro f
  induction f with
  | zero => intro σ H locs ls v2 Wd hf hl; exact False.elim hf
  | succ f ih =>
    intro σ H locs ls v2 Wd hf hl
    replace hf : wM_join_25_s (m_lim ad) post (wM_join_25 (m_lim ad) post f) σ v2 := hf
    refine lv_iload_n C.1 C.2.1 dX1_join_25 rfl (lv_at hl 1 rfl) ?_
    refine lv_iconst (v := 1) C.1 C.2.1 dX1_join_26 (by decide) ?_
    refine lv_iadd C.1 C.2.1 dX1_join_27 ?_
    refine lv_aload_n C.1 C.2.1 dX1_join_28 rfl (lv_at hl 0 rfl) ?_
    refine m_get_ch C Wd dX1_join_29 ?_
    refine lv_icmp_ge (tgt := 97) C.1 C.2.1 dX1_join_32 (by decide) (fun hc => ?_) (fun hc => ?_)
    · replace hf := hf.1 hc
      exact bM_join_97 C Wd hf (lv_sub hl [0] rfl)
    · replace hf := hf.2 hc
      refine lv_aload_n C.1 C.2.1 dX1_join_35 rfl (lv_at hl 0 rfl) ?_
      refine m_get_fi C Wd dX1_join_36 ?_
      refine lv_iload_n C.1 C.2.1 dX1_join_39 rfl (lv_at hl 1 rfl) ?_
      refine lv_aload_n C.1 C.2.1 dX1_join_40 rfl (lv_at hl 0 rfl) ?_
      refine m_get_fi C Wd dX1_join_41 ?_
      refine lv_iload_n C.1 C.2.1 dX1_join_44 rfl (lv_at hl 1 rfl) ?_
      refine lv_iconst (v := 1) C.1 C.2.1 dX1_join_45 (by decide) ?_
      refine lv_iadd C.1 C.2.1 dX1_join_46 ?_
      refine m_ald_fi C Wd hf.1 dX1_join_47 ?_
      replace hf := hf.2
      refine m_ast_fi C Wd hf.1 dX1_join_48 (fun H locs Wd => ?_)
      replace hf := hf.2
      refine lv_aload_n C.1 C.2.1 dX1_join_49 rfl (lv_at hl 0 rfl) ?_
      refine m_get_sz C Wd dX1_join_50 ?_
      refine lv_iload_n C.1 C.2.1 dX1_join_53 rfl (lv_at hl 1 rfl) ?_
      refine lv_aload_n C.1 C.2.1 dX1_join_54 rfl (lv_at hl 0 rfl) ?_
      refine m_get_sz C Wd dX1_join_55 ?_
      refine lv_iload_n C.1 C.2.1 dX1_join_58 rfl (lv_at hl 1 rfl) ?_
      refine lv_iconst (v := 1) C.1 C.2.1 dX1_join_59 (by decide) ?_
      refine lv_iadd C.1 C.2.1 dX1_join_60 ?_
      refine m_ald_sz C Wd hf.1 dX1_join_61 ?_
      replace hf := hf.2
      refine m_ast_sz C Wd hf.1 dX1_join_62 (fun H locs Wd => ?_)
      replace hf := hf.2
      refine lv_aload_n C.1 C.2.1 dX1_join_63 rfl (lv_at hl 0 rfl) ?_
      refine m_get_us C Wd dX1_join_64 ?_
      refine lv_iload_n C.1 C.2.1 dX1_join_67 rfl (lv_at hl 1 rfl) ?_
      refine lv_aload_n C.1 C.2.1 dX1_join_68 rfl (lv_at hl 0 rfl) ?_
      refine m_get_us C Wd dX1_join_69 ?_
      refine lv_iload_n C.1 C.2.1 dX1_join_72 rfl (lv_at hl 1 rfl) ?_
      refine lv_iconst (v := 1) C.1 C.2.1 dX1_join_73 (by decide) ?_
      refine lv_iadd C.1 C.2.1 dX1_join_74 ?_
      refine m_ald_us C Wd hf.1 dX1_join_75 ?_
      replace hf := hf.2
      refine m_ast_us C Wd hf.1 rfl dX1_join_76 (fun H locs Wd => ?_)
      replace hf := hf.2
      refine lv_aload_n C.1 C.2.1 dX1_join_77 rfl (lv_at hl 0 rfl) ?_
      refine m_get_ca C Wd dX1_join_78 ?_
      refine lv_iload_n C.1 C.2.1 dX1_join_81 rfl (lv_at hl 1 rfl) ?_
      refine lv_aload_n C.1 C.2.1 dX1_join_82 rfl (lv_at hl 0 rfl) ?_
      refine m_get_ca C Wd dX1_join_83 ?_
      refine lv_iload_n C.1 C.2.1 dX1_join_86 rfl (lv_at hl 1 rfl) ?_
      refine lv_iconst (v := 1) C.1 C.2.1 dX1_join_87 (by decide) ?_
      refine lv_iadd C.1 C.2.1 dX1_join_88 ?_
      refine m_ald_ca C Wd hf.1 dX1_join_89 ?_
      replace hf := hf.2
      refine m_ast_ca C Wd hf.1 dX1_join_90 (fun H locs Wd => ?_)
      replace hf := hf.2
      refine lv_iinc (v := v2 + 1) (lv' := [(2, .int (v2 + 1)), (0, .ref (m_h ad))]) C.1 C.2.1 dX1_join_91 hl (k := 1) rfl rfl (by decide) rfl (fun ls hl => ?_)
      refine lv_goto (tgt := 25) C.1 C.2.1 dX1_join_94 (by decide) ?_
      exact ih _ _ _ _ _  Wd hf (lv_sub hl [1, 0] rfl)
theorem bM_join_25 {p : Program} {l : Launch} {e : Env} {s : State} {m : MethodId} {args : Array Value} {below : List Frame} {meth : Method} {c : Code} {D : va_G} {ad : MA} {A : Nat → Prop} (C : m_C p s m args meth c cX1_join 3 none) {post : MS → Prop} {σ : MS} {H : Heap} {locs : List Loc} {ls : Array Slot} {v2 : Int32} (Wd : m_W D ad σ A s H locs) (hf : ∃ f : Nat, wM_join_25 (m_lim ad) post f σ v2) (hl : lv_has ls 3 [(0, .ref (m_h ad)), (2, .int v2)]) : W p l e { frames := 0, cells := 0, slots := 0, locals := 0 } s m args below meth c H locs 0 0 (m_Qv below D ad A args s post) (F0 m 25 ls []) := by
  obtain ⟨f, hf⟩ := hf
  exact bM_join_25_f C f σ H locs ls v2 Wd hf hl
set_option maxHeartbeats 4000000 in
set_option maxRecDepth 100000 in
theorem cM_join (l : Launch) (D : va_G) (ad : MA) (v1 : Int32) : m_Mv l D yX1_join cX1_join 3 none { frames := 0, cells := 0, slots := 0, locals := 0 } ad [.ref (m_h ad), .int v1] (fun σ post => wM_join (m_lim ad) σ v1 post) := by
  refine m_ofv ⟨by decide, rfl, Nat.le_of_ble_eq_true rfl⟩ (fun {p e s m args below meth c σ A post ls} C Wd hf hl => ?_)
  replace hl : lv_has ls 3 [(0, .ref (m_h ad)), (1, .int v1)] := hl
  refine lv_aload_n C.1 C.2.1 dX1_join_0 rfl (lv_at hl 0 rfl) ?_
  refine m_get_sz C Wd dX1_join_1 ?_
  refine lv_iload_n C.1 C.2.1 dX1_join_4 rfl (lv_at hl 1 rfl) ?_
  refine lv_aload_n C.1 C.2.1 dX1_join_5 rfl (lv_at hl 0 rfl) ?_
  refine m_get_sz C Wd dX1_join_6 ?_
  refine lv_iload_n C.1 C.2.1 dX1_join_9 rfl (lv_at hl 1 rfl) ?_
  refine m_ald_sz C Wd hf.1 dX1_join_10 ?_
  replace hf := hf.2
  refine lv_aload_n C.1 C.2.1 dX1_join_11 rfl (lv_at hl 0 rfl) ?_
  refine m_get_sz C Wd dX1_join_12 ?_
  refine lv_iload_n C.1 C.2.1 dX1_join_15 rfl (lv_at hl 1 rfl) ?_
  refine lv_iconst (v := 1) C.1 C.2.1 dX1_join_16 (by decide) ?_
  refine lv_iadd C.1 C.2.1 dX1_join_17 ?_
  refine m_ald_sz C Wd hf.1 dX1_join_18 ?_
  replace hf := hf.2
  refine lv_iadd C.1 C.2.1 dX1_join_19 ?_
  refine m_ast_sz C Wd hf.1 dX1_join_20 (fun H locs Wd => ?_)
  replace hf := hf.2
  refine lv_iload_n C.1 C.2.1 dX1_join_21 rfl (lv_at hl 1 rfl) ?_
  refine lv_iconst (v := 1) C.1 C.2.1 dX1_join_22 (by decide) ?_
  refine lv_iadd C.1 C.2.1 dX1_join_23 ?_
  refine lv_istore_n (lv' := [(2, .int (v1 + 1)), (0, .ref (m_h ad)), (1, .int v1)]) C.1 C.2.1 dX1_join_24 rfl hl (by decide) rfl (fun ls hl => ?_)
  exact bM_join_25 C Wd hf (lv_sub hl [1, 0] rfl)
set_option maxHeartbeats 4000000 in
set_option maxRecDepth 100000 in
theorem cM_store (l : Launch) (D : va_G) (ad : MA) (v1 : Int32) : m_Mv l D yX1_store cX1_store 2 none { frames := 0, cells := 0, slots := 0, locals := 0 } ad [.ref (m_h ad), .int v1] (fun σ post => wM_store (m_lim ad) σ v1 post) := by
  refine m_ofv ⟨by decide, rfl, Nat.le_of_ble_eq_true rfl⟩ (fun {p e s m args below meth c σ A post ls} C Wd hf hl => ?_)
  replace hl : lv_has ls 2 [(0, .ref (m_h ad)), (1, .int v1)] := hl
  refine lv_aload_n C.1 C.2.1 dX1_store_0 rfl (lv_at hl 0 rfl) ?_
  refine lv_dup C.1 C.2.1 dX1_store_1 rfl ?_
  refine m_get_cl C Wd dX1_store_2 ?_
  refine lv_iconst (v := 1) C.1 C.2.1 dX1_store_5 (by decide) ?_
  refine lv_iadd C.1 C.2.1 dX1_store_6 ?_
  refine m_put_cl C Wd dX1_store_7 (fun H locs Wd => ?_)
  refine lv_aload_n C.1 C.2.1 dX1_store_10 rfl (lv_at hl 0 rfl) ?_
  refine m_get_ca C Wd dX1_store_11 ?_
  refine lv_iload_n C.1 C.2.1 dX1_store_14 rfl (lv_at hl 1 rfl) ?_
  refine lv_aload_n C.1 C.2.1 dX1_store_15 rfl (lv_at hl 0 rfl) ?_
  refine m_get_cl C Wd dX1_store_16 ?_
  refine m_ast_ca C Wd hf.1 dX1_store_19 (fun H locs Wd => ?_)
  replace hf := hf.2
  exact m_vret C Wd hf dX1_store_20
set_option maxHeartbeats 4000000 in
set_option maxRecDepth 100000 in
theorem cM_cut (l : Launch) (D : va_G) (ad : MA) (v1 : Int32) (v2 : Int32) : m_Mi l D yX1_cut cX1_cut 3 (some .boolean) { frames := 1, cells := 0, slots := 0, locals := 23 } ad [.ref (m_h ad), .int v1, .int v2] (fun σ post => wM_cut (m_lim ad) σ v1 v2 post) := by
  refine m_ofi ⟨by decide, rfl, Nat.le_of_ble_eq_true rfl⟩ (fun {p e s m args below meth c σ A post ls} C Wd hf hl => ?_)
  replace hl : lv_has ls 3 [(0, .ref (m_h ad)), (1, .int v1), (2, .int v2)] := hl
  refine lv_aload_n C.1 C.2.1 dX1_cut_0 rfl (lv_at hl 0 rfl) ?_
  refine m_get_us C Wd dX1_cut_1 ?_
  refine lv_iload_n C.1 C.2.1 dX1_cut_4 rfl (lv_at hl 1 rfl) ?_
  refine lv_iconst (v := 1) C.1 C.2.1 dX1_cut_5 (by decide) ?_
  refine m_ast_us C Wd hf.1 rfl dX1_cut_6 (fun H locs Wd => ?_)
  replace hf := hf.2
  refine lv_aload_n C.1 C.2.1 dX1_cut_7 rfl (lv_at hl 0 rfl) ?_
  refine m_get_sz C Wd dX1_cut_8 ?_
  refine lv_iload_n C.1 C.2.1 dX1_cut_11 rfl (lv_at hl 1 rfl) ?_
  refine m_ald_sz C Wd hf.1 dX1_cut_12 ?_
  replace hf := hf.2
  refine lv_iload_n C.1 C.2.1 dX1_cut_13 rfl (lv_at hl 2 rfl) ?_
  refine lv_isub C.1 C.2.1 dX1_cut_14 ?_
  refine lv_iconst (v := 2) C.1 C.2.1 dX1_cut_15 (by decide) ?_
  refine lv_icmp_ge (tgt := 21) C.1 C.2.1 dX1_cut_16 (by decide) (fun hc => ?_) (fun hc => ?_)
  · replace hf := hf.1 hc
    refine lv_aload_n C.1 C.2.1 dX1_cut_21 rfl (lv_at hl 0 rfl) ?_
    refine lv_iload_n C.1 C.2.1 dX1_cut_22 rfl (lv_at hl 1 rfl) ?_
    refine lv_iload_n C.1 C.2.1 dX1_cut_23 rfl (lv_at hl 2 rfl) ?_
    refine m_callvv (As := [.int v1, .int v2]) (rest := []) C Wd (cM_part l D ad v1 v2) sM_part (by decide) rfl hl.1 rfl (Nat.le_of_ble_eq_true rfl) (by decide) dX1_cut_24 hf (fun σ24 H locs hf Wd => ?_)
    refine lv_iconst (v := 1) C.1 C.2.1 dX1_cut_27 (by decide) ?_
    exact m_zret C Wd (by decide) hf dX1_cut_28
  · replace hf := hf.2 hc
    refine lv_iconst (v := 0) C.1 C.2.1 dX1_cut_19 (by decide) ?_
    exact m_zret C Wd (by decide) hf dX1_cut_20
set_option maxHeartbeats 4000000 in
set_option maxRecDepth 100000 in
theorem bM_best_5_f {p : Program} {l : Launch} {e : Env} {s : State} {m : MethodId} {args : Array Value} {below : List Frame} {meth : Method} {c : Code} {D : va_G} {ad : MA} {A : Nat → Prop} (C : m_C p s m args meth c cX1_best 7 (some .int)) {post : Int32 → MS → Prop} : ∀ (f : Nat) (σ : MS) (H : Heap) (locs : List Loc) (ls : Array Slot) (v1 : Int32) (v2 : Int32) (v3 : Int32) (v4 : Int32), m_W D ad σ A s H locs → wM_best_5 (m_lim ad) post f σ v1 v2 v3 v4 → lv_has ls 7 [(0, .ref (m_h ad)), (1, .int v1), (2, .int v2), (3, .int v3), (4, .int v4)] → W p l e { frames := 1, cells := 0, slots := 0, locals := 21 } s m args below meth c H locs 0 0 (m_Qi below D ad A args s post) (F0 m 5 ls []) := by
  intro f
  induction f with
  | zero => intro σ H locs ls v1 v2 v3 v4 Wd hf hl; exact False.elim hf
  | succ f ih =>
    intro σ H locs ls v1 v2 v3 v4 Wd hf hl
    replace hf : wM_best_5_s (m_lim ad) post (wM_best_5 (m_lim ad) post f) σ v1 v2 v3 v4 := hf
    refine lv_iload C.1 C.2.1 dX1_best_5 (lv_at hl 4 rfl) ?_
    refine lv_aload_n C.1 C.2.1 dX1_best_7 rfl (lv_at hl 0 rfl) ?_
    refine m_get_ch C Wd dX1_best_8 ?_
    refine lv_icmp_ge (tgt := 129) C.1 C.2.1 dX1_best_11 (by decide) (fun hc => ?_) (fun hc => ?_)
    · replace hf := hf.1 hc
      refine lv_iload_n C.1 C.2.1 dX1_best_129 rfl (lv_at hl 3 rfl) ?_
      exact m_iret C Wd hf dX1_best_130
    · replace hf := hf.2 hc
      refine lv_aload_n C.1 C.2.1 dX1_best_14 rfl (lv_at hl 0 rfl) ?_
      refine lv_iload C.1 C.2.1 dX1_best_15 (lv_at hl 4 rfl) ?_
      refine m_calliv (As := [.int v4]) (rest := []) C Wd (cM_stateOf l D ad v4) sM_stateOf (by decide) rfl hl.1 rfl (Nat.le_of_ble_eq_true rfl) (by decide) dX1_best_17 hf (fun r17 σ17 H locs hf Wd => ?_)
      refine lv_istore (lv' := [(5, .int r17), (0, .ref (m_h ad)), (1, .int v1), (2, .int v2), (3, .int v3), (4, .int v4)]) C.1 C.2.1 dX1_best_20 hl (by decide) rfl (fun ls hl => ?_)
      refine lv_iload C.1 C.2.1 dX1_best_22 (lv_at hl 0 rfl) ?_
      refine lv_iconst (v := 1) C.1 C.2.1 dX1_best_24 (by decide) ?_
      refine lv_icmp_eq (tgt := 34) C.1 C.2.1 dX1_best_25 (by decide) (fun hc => ?_) (fun hc => ?_)
      · replace hf := hf.1 hc
        refine lv_aload_n C.1 C.2.1 dX1_best_34 rfl (lv_at hl 1 rfl) ?_
        refine m_get_sz C Wd dX1_best_35 ?_
        refine lv_iload C.1 C.2.1 dX1_best_38 (lv_at hl 5 rfl) ?_
        refine m_ald_sz C Wd hf.1 dX1_best_40 ?_
        replace hf := hf.2
        refine lv_iload_n C.1 C.2.1 dX1_best_41 rfl (lv_at hl 2 rfl) ?_
        refine lv_icmp_lt (tgt := 60) C.1 C.2.1 dX1_best_42 (by decide) (fun hc => ?_) (fun hc => ?_)
        · replace hf := hf.1 hc
          refine lv_iconst (v := 0) C.1 C.2.1 dX1_best_60 (by decide) ?_
          refine lv_istore (lv' := [(6, .int 0), (5, .int r17), (0, .ref (m_h ad)), (1, .int v1), (2, .int v2), (3, .int v3), (4, .int v4)]) C.1 C.2.1 dX1_best_61 hl (by decide) rfl (fun ls hl => ?_)
          refine lv_iload C.1 C.2.1 dX1_best_63 (lv_at hl 0 rfl) ?_
          refine lv_if_eq (tgt := 123) C.1 C.2.1 dX1_best_65 (by decide) (fun _ => ?_) (fun hc => absurd hc (by decide))
          refine lv_iinc (v := v4 + 1) (lv' := [(4, .int (v4 + 1)), (6, .int 0), (5, .int r17), (0, .ref (m_h ad)), (1, .int v1), (2, .int v2), (3, .int v3)]) C.1 C.2.1 dX1_best_123 hl (k := 6) rfl rfl (by decide) rfl (fun ls hl => ?_)
          refine lv_goto (tgt := 5) C.1 C.2.1 dX1_best_126 (by decide) ?_
          exact ih _ _ _ _ _ _ _ _  Wd hf (lv_sub hl [3, 4, 5, 6, 0] rfl)
        · replace hf := hf.2 hc
          refine lv_aload_n C.1 C.2.1 dX1_best_45 rfl (lv_at hl 1 rfl) ?_
          refine m_get_sz C Wd dX1_best_46 ?_
          refine lv_iload C.1 C.2.1 dX1_best_49 (lv_at hl 5 rfl) ?_
          refine m_ald_sz C Wd hf.1 dX1_best_51 ?_
          replace hf := hf.2
          refine lv_iload_n C.1 C.2.1 dX1_best_52 rfl (lv_at hl 3 rfl) ?_
          refine lv_icmp_gt (tgt := 60) C.1 C.2.1 dX1_best_53 (by decide) (fun hc => ?_) (fun hc => ?_)
          · replace hf := hf.1 hc
            refine lv_iconst (v := 0) C.1 C.2.1 dX1_best_60 (by decide) ?_
            refine lv_istore (lv' := [(6, .int 0), (5, .int r17), (0, .ref (m_h ad)), (1, .int v1), (2, .int v2), (3, .int v3), (4, .int v4)]) C.1 C.2.1 dX1_best_61 hl (by decide) rfl (fun ls hl => ?_)
            refine lv_iload C.1 C.2.1 dX1_best_63 (lv_at hl 0 rfl) ?_
            refine lv_if_eq (tgt := 123) C.1 C.2.1 dX1_best_65 (by decide) (fun _ => ?_) (fun hc => absurd hc (by decide))
            refine lv_iinc (v := v4 + 1) (lv' := [(4, .int (v4 + 1)), (6, .int 0), (5, .int r17), (0, .ref (m_h ad)), (1, .int v1), (2, .int v2), (3, .int v3)]) C.1 C.2.1 dX1_best_123 hl (k := 6) rfl rfl (by decide) rfl (fun ls hl => ?_)
            refine lv_goto (tgt := 5) C.1 C.2.1 dX1_best_126 (by decide) ?_
            exact ih _ _ _ _ _ _ _ _  Wd hf (lv_sub hl [3, 4, 5, 6, 0] rfl)
          · replace hf := hf.2 hc
            refine lv_iconst (v := 1) C.1 C.2.1 dX1_best_56 (by decide) ?_
            refine lv_goto (tgt := 61) C.1 C.2.1 dX1_best_57 (by decide) ?_
            refine lv_istore (lv' := [(6, .int 1), (5, .int r17), (0, .ref (m_h ad)), (1, .int v1), (2, .int v2), (3, .int v3), (4, .int v4)]) C.1 C.2.1 dX1_best_61 hl (by decide) rfl (fun ls hl => ?_)
            refine lv_iload C.1 C.2.1 dX1_best_63 (lv_at hl 0 rfl) ?_
            refine lv_if_eq (tgt := 123) C.1 C.2.1 dX1_best_65 (by decide) (fun hc => absurd hc (by decide)) (fun _ => ?_)
            refine lv_iload_n C.1 C.2.1 dX1_best_68 rfl (lv_at hl 5 rfl) ?_
            refine lv_if_lt (tgt := 120) C.1 C.2.1 dX1_best_69 (by decide) (fun hc => ?_) (fun hc => ?_)
            · replace hf := hf.1 hc
              refine lv_iload C.1 C.2.1 dX1_best_120 (lv_at hl 6 rfl) ?_
              refine lv_istore_n (lv' := [(3, .int v4), (6, .int 1), (5, .int r17), (0, .ref (m_h ad)), (1, .int v1), (2, .int v2), (4, .int v4)]) C.1 C.2.1 dX1_best_122 rfl hl (by decide) rfl (fun ls hl => ?_)
              refine lv_iinc (v := v4 + 1) (lv' := [(4, .int (v4 + 1)), (3, .int v4), (6, .int 1), (5, .int r17), (0, .ref (m_h ad)), (1, .int v1), (2, .int v2)]) C.1 C.2.1 dX1_best_123 hl (k := 6) rfl rfl (by decide) rfl (fun ls hl => ?_)
              refine lv_goto (tgt := 5) C.1 C.2.1 dX1_best_126 (by decide) ?_
              exact ih _ _ _ _ _ _ _ _  Wd hf (lv_sub hl [4, 5, 6, 1, 0] rfl)
            · replace hf := hf.2 hc
              refine lv_aload_n C.1 C.2.1 dX1_best_72 rfl (lv_at hl 2 rfl) ?_
              refine m_get_sz C Wd dX1_best_73 ?_
              refine lv_iload C.1 C.2.1 dX1_best_76 (lv_at hl 6 rfl) ?_
              refine m_ald_sz C Wd hf.1 dX1_best_78 ?_
              replace hf := hf.2
              refine lv_aload_n C.1 C.2.1 dX1_best_79 rfl (lv_at hl 2 rfl) ?_
              refine m_get_sz C Wd dX1_best_80 ?_
              refine lv_iload_n C.1 C.2.1 dX1_best_83 rfl (lv_at hl 5 rfl) ?_
              refine m_ald_sz C Wd hf.1 dX1_best_84 ?_
              replace hf := hf.2
              refine lv_icmp_lt (tgt := 120) C.1 C.2.1 dX1_best_85 (by decide) (fun hc => ?_) (fun hc => ?_)
              · replace hf := hf.1 hc
                refine lv_iload C.1 C.2.1 dX1_best_120 (lv_at hl 6 rfl) ?_
                refine lv_istore_n (lv' := [(3, .int v4), (6, .int 1), (5, .int r17), (0, .ref (m_h ad)), (1, .int v1), (2, .int v2), (4, .int v4)]) C.1 C.2.1 dX1_best_122 rfl hl (by decide) rfl (fun ls hl => ?_)
                refine lv_iinc (v := v4 + 1) (lv' := [(4, .int (v4 + 1)), (3, .int v4), (6, .int 1), (5, .int r17), (0, .ref (m_h ad)), (1, .int v1), (2, .int v2)]) C.1 C.2.1 dX1_best_123 hl (k := 6) rfl rfl (by decide) rfl (fun ls hl => ?_)
                refine lv_goto (tgt := 5) C.1 C.2.1 dX1_best_126 (by decide) ?_
                exact ih _ _ _ _ _ _ _ _  Wd hf (lv_sub hl [4, 5, 6, 1, 0] rfl)
              · replace hf := hf.2 hc
                refine lv_aload_n C.1 C.2.1 dX1_best_88 rfl (lv_at hl 2 rfl) ?_
                refine m_get_sz C Wd dX1_best_89 ?_
                refine lv_iload C.1 C.2.1 dX1_best_92 (lv_at hl 6 rfl) ?_
                refine m_ald_sz C Wd hf.1 dX1_best_94 ?_
                replace hf := hf.2
                refine lv_aload_n C.1 C.2.1 dX1_best_95 rfl (lv_at hl 2 rfl) ?_
                refine m_get_sz C Wd dX1_best_96 ?_
                refine lv_iload_n C.1 C.2.1 dX1_best_99 rfl (lv_at hl 5 rfl) ?_
                refine m_ald_sz C Wd hf.1 dX1_best_100 ?_
                replace hf := hf.2
                refine lv_icmp_ne (tgt := 123) C.1 C.2.1 dX1_best_101 (by decide) (fun hc => ?_) (fun hc => ?_)
                · replace hf := hf.1 hc
                  refine lv_iinc (v := v4 + 1) (lv' := [(4, .int (v4 + 1)), (6, .int 1), (5, .int r17), (0, .ref (m_h ad)), (1, .int v1), (2, .int v2), (3, .int v3)]) C.1 C.2.1 dX1_best_123 hl (k := 6) rfl rfl (by decide) rfl (fun ls hl => ?_)
                  refine lv_goto (tgt := 5) C.1 C.2.1 dX1_best_126 (by decide) ?_
                  exact ih _ _ _ _ _ _ _ _  Wd hf (lv_sub hl [3, 4, 5, 6, 0] rfl)
                · replace hf := hf.2 hc
                  refine lv_aload_n C.1 C.2.1 dX1_best_104 rfl (lv_at hl 2 rfl) ?_
                  refine m_get_ca C Wd dX1_best_105 ?_
                  refine lv_iload C.1 C.2.1 dX1_best_108 (lv_at hl 6 rfl) ?_
                  refine m_ald_ca C Wd hf.1 dX1_best_110 ?_
                  replace hf := hf.2
                  refine lv_aload_n C.1 C.2.1 dX1_best_111 rfl (lv_at hl 2 rfl) ?_
                  refine m_get_ca C Wd dX1_best_112 ?_
                  refine lv_iload_n C.1 C.2.1 dX1_best_115 rfl (lv_at hl 5 rfl) ?_
                  refine m_ald_ca C Wd hf.1 dX1_best_116 ?_
                  replace hf := hf.2
                  refine lv_icmp_le (tgt := 123) C.1 C.2.1 dX1_best_117 (by decide) (fun hc => ?_) (fun hc => ?_)
                  · replace hf := hf.1 hc
                    refine lv_iinc (v := v4 + 1) (lv' := [(4, .int (v4 + 1)), (6, .int 1), (5, .int r17), (0, .ref (m_h ad)), (1, .int v1), (2, .int v2), (3, .int v3)]) C.1 C.2.1 dX1_best_123 hl (k := 6) rfl rfl (by decide) rfl (fun ls hl => ?_)
                    refine lv_goto (tgt := 5) C.1 C.2.1 dX1_best_126 (by decide) ?_
                    exact ih _ _ _ _ _ _ _ _  Wd hf (lv_sub hl [3, 4, 5, 6, 0] rfl)
                  · replace hf := hf.2 hc
                    refine lv_iload C.1 C.2.1 dX1_best_120 (lv_at hl 6 rfl) ?_
                    refine lv_istore_n (lv' := [(3, .int v4), (6, .int 1), (5, .int r17), (0, .ref (m_h ad)), (1, .int v1), (2, .int v2), (4, .int v4)]) C.1 C.2.1 dX1_best_122 rfl hl (by decide) rfl (fun ls hl => ?_)
                    refine lv_iinc (v := v4 + 1) (lv' := [(4, .int (v4 + 1)), (3, .int v4), (6, .int 1), (5, .int r17), (0, .ref (m_h ad)), (1, .int v1), (2, .int v2)]) C.1 C.2.1 dX1_best_123 hl (k := 6) rfl rfl (by decide) rfl (fun ls hl => ?_)
                    refine lv_goto (tgt := 5) C.1 C.2.1 dX1_best_126 (by decide) ?_
                    exact ih _ _ _ _ _ _ _ _  Wd hf (lv_sub hl [4, 5, 6, 1, 0] rfl)
      · replace hf := hf.2 hc
        refine lv_iload C.1 C.2.1 dX1_best_28 (lv_at hl 0 rfl) ?_
        refine lv_iconst (v := 2) C.1 C.2.1 dX1_best_30 (by decide) ?_
        refine lv_icmp_ne (tgt := 60) C.1 C.2.1 dX1_best_31 (by decide) (fun hc => ?_) (fun hc => ?_)
        · replace hf := hf.1 hc
          refine lv_iconst (v := 0) C.1 C.2.1 dX1_best_60 (by decide) ?_
          refine lv_istore (lv' := [(6, .int 0), (5, .int r17), (0, .ref (m_h ad)), (1, .int v1), (2, .int v2), (3, .int v3), (4, .int v4)]) C.1 C.2.1 dX1_best_61 hl (by decide) rfl (fun ls hl => ?_)
          refine lv_iload C.1 C.2.1 dX1_best_63 (lv_at hl 0 rfl) ?_
          refine lv_if_eq (tgt := 123) C.1 C.2.1 dX1_best_65 (by decide) (fun _ => ?_) (fun hc => absurd hc (by decide))
          refine lv_iinc (v := v4 + 1) (lv' := [(4, .int (v4 + 1)), (6, .int 0), (5, .int r17), (0, .ref (m_h ad)), (1, .int v1), (2, .int v2), (3, .int v3)]) C.1 C.2.1 dX1_best_123 hl (k := 6) rfl rfl (by decide) rfl (fun ls hl => ?_)
          refine lv_goto (tgt := 5) C.1 C.2.1 dX1_best_126 (by decide) ?_
          exact ih _ _ _ _ _ _ _ _  Wd hf (lv_sub hl [3, 4, 5, 6, 0] rfl)
        · replace hf := hf.2 hc
          refine lv_aload_n C.1 C.2.1 dX1_best_34 rfl (lv_at hl 1 rfl) ?_
          refine m_get_sz C Wd dX1_best_35 ?_
          refine lv_iload C.1 C.2.1 dX1_best_38 (lv_at hl 5 rfl) ?_
          refine m_ald_sz C Wd hf.1 dX1_best_40 ?_
          replace hf := hf.2
          refine lv_iload_n C.1 C.2.1 dX1_best_41 rfl (lv_at hl 2 rfl) ?_
          refine lv_icmp_lt (tgt := 60) C.1 C.2.1 dX1_best_42 (by decide) (fun hc => ?_) (fun hc => ?_)
          · replace hf := hf.1 hc
            refine lv_iconst (v := 0) C.1 C.2.1 dX1_best_60 (by decide) ?_
            refine lv_istore (lv' := [(6, .int 0), (5, .int r17), (0, .ref (m_h ad)), (1, .int v1), (2, .int v2), (3, .int v3), (4, .int v4)]) C.1 C.2.1 dX1_best_61 hl (by decide) rfl (fun ls hl => ?_)
            refine lv_iload C.1 C.2.1 dX1_best_63 (lv_at hl 0 rfl) ?_
            refine lv_if_eq (tgt := 123) C.1 C.2.1 dX1_best_65 (by decide) (fun _ => ?_) (fun hc => absurd hc (by decide))
            refine lv_iinc (v := v4 + 1) (lv' := [(4, .int (v4 + 1)), (6, .int 0), (5, .int r17), (0, .ref (m_h ad)), (1, .int v1), (2, .int v2), (3, .int v3)]) C.1 C.2.1 dX1_best_123 hl (k := 6) rfl rfl (by decide) rfl (fun ls hl => ?_)
            refine lv_goto (tgt := 5) C.1 C.2.1 dX1_best_126 (by decide) ?_
            exact ih _ _ _ _ _ _ _ _  Wd hf (lv_sub hl [3, 4, 5, 6, 0] rfl)
          · replace hf := hf.2 hc
            refine lv_aload_n C.1 C.2.1 dX1_best_45 rfl (lv_at hl 1 rfl) ?_
            refine m_get_sz C Wd dX1_best_46 ?_
            refine lv_iload C.1 C.2.1 dX1_best_49 (lv_at hl 5 rfl) ?_
            refine m_ald_sz C Wd hf.1 dX1_best_51 ?_
            replace hf := hf.2
            refine lv_iload_n C.1 C.2.1 dX1_best_52 rfl (lv_at hl 3 rfl) ?_
            refine lv_icmp_gt (tgt := 60) C.1 C.2.1 dX1_best_53 (by decide) (fun hc => ?_) (fun hc => ?_)
            · replace hf := hf.1 hc
              refine lv_iconst (v := 0) C.1 C.2.1 dX1_best_60 (by decide) ?_
              refine lv_istore (lv' := [(6, .int 0), (5, .int r17), (0, .ref (m_h ad)), (1, .int v1), (2, .int v2), (3, .int v3), (4, .int v4)]) C.1 C.2.1 dX1_best_61 hl (by decide) rfl (fun ls hl => ?_)
              refine lv_iload C.1 C.2.1 dX1_best_63 (lv_at hl 0 rfl) ?_
              refine lv_if_eq (tgt := 123) C.1 C.2.1 dX1_best_65 (by decide) (fun _ => ?_) (fun hc => absurd hc (by decide))
              refine lv_iinc (v := v4 + 1) (lv' := [(4, .int (v4 + 1)), (6, .int 0), (5, .int r17), (0, .ref (m_h ad)), (1, .int v1), (2, .int v2), (3, .int v3)]) C.1 C.2.1 dX1_best_123 hl (k := 6) rfl rfl (by decide) rfl (fun ls hl => ?_)
              refine lv_goto (tgt := 5) C.1 C.2.1 dX1_best_126 (by decide) ?_
              exact ih _ _ _ _ _ _ _ _  Wd hf (lv_sub hl [3, 4, 5, 6, 0] rfl)
            · replace hf := hf.2 hc
              refine lv_iconst (v := 1) C.1 C.2.1 dX1_best_56 (by decide) ?_
              refine lv_goto (tgt := 61) C.1 C.2.1 dX1_best_57 (by decide) ?_
              refine lv_istore (lv' := [(6, .int 1), (5, .int r17), (0, .ref (m_h ad)), (1, .int v1), (2, .int v2), (3, .int v3), (4, .int v4)]) C.1 C.2.1 dX1_best_61 hl (by decide) rfl (fun ls hl => ?_)
              refine lv_iload C.1 C.2.1 dX1_best_63 (lv_at hl 0 rfl) ?_
              refine lv_if_eq (tgt := 123) C.1 C.2.1 dX1_best_65 (by decide) (fun hc => absurd hc (by decide)) (fun _ => ?_)
              refine lv_iload_n C.1 C.2.1 dX1_best_68 rfl (lv_at hl 5 rfl) ?_
              refine lv_if_lt (tgt := 120) C.1 C.2.1 dX1_best_69 (by decide) (fun hc => ?_) (fun hc => ?_)
              · replace hf := hf.1 hc
                refine lv_iload C.1 C.2.1 dX1_best_120 (lv_at hl 6 rfl) ?_
                refine lv_istore_n (lv' := [(3, .int v4), (6, .int 1), (5, .int r17), (0, .ref (m_h ad)), (1, .int v1), (2, .int v2), (4, .int v4)]) C.1 C.2.1 dX1_best_122 rfl hl (by decide) rfl (fun ls hl => ?_)
                refine lv_iinc (v := v4 + 1) (lv' := [(4, .int (v4 + 1)), (3, .int v4), (6, .int 1), (5, .int r17), (0, .ref (m_h ad)), (1, .int v1), (2, .int v2)]) C.1 C.2.1 dX1_best_123 hl (k := 6) rfl rfl (by decide) rfl (fun ls hl => ?_)
                refine lv_goto (tgt := 5) C.1 C.2.1 dX1_best_126 (by decide) ?_
                exact ih _ _ _ _ _ _ _ _  Wd hf (lv_sub hl [4, 5, 6, 1, 0] rfl)
              · replace hf := hf.2 hc
                refine lv_aload_n C.1 C.2.1 dX1_best_72 rfl (lv_at hl 2 rfl) ?_
                refine m_get_sz C Wd dX1_best_73 ?_
                refine lv_iload C.1 C.2.1 dX1_best_76 (lv_at hl 6 rfl) ?_
                refine m_ald_sz C Wd hf.1 dX1_best_78 ?_
                replace hf := hf.2
                refine lv_aload_n C.1 C.2.1 dX1_best_79 rfl (lv_at hl 2 rfl) ?_
                refine m_get_sz C Wd dX1_best_80 ?_
                refine lv_iload_n C.1 C.2.1 dX1_best_83 rfl (lv_at hl 5 rfl) ?_
                refine m_ald_sz C Wd hf.1 dX1_best_84 ?_
                replace hf := hf.2
                refine lv_icmp_lt (tgt := 120) C.1 C.2.1 dX1_best_85 (by decide) (fun hc => ?_) (fun hc => ?_)
                · replace hf := hf.1 hc
                  refine lv_iload C.1 C.2.1 dX1_best_120 (lv_at hl 6 rfl) ?_
                  refine lv_istore_n (lv' := [(3, .int v4), (6, .int 1), (5, .int r17), (0, .ref (m_h ad)), (1, .int v1), (2, .int v2), (4, .int v4)]) C.1 C.2.1 dX1_best_122 rfl hl (by decide) rfl (fun ls hl => ?_)
                  refine lv_iinc (v := v4 + 1) (lv' := [(4, .int (v4 + 1)), (3, .int v4), (6, .int 1), (5, .int r17), (0, .ref (m_h ad)), (1, .int v1), (2, .int v2)]) C.1 C.2.1 dX1_best_123 hl (k := 6) rfl rfl (by decide) rfl (fun ls hl => ?_)
                  refine lv_goto (tgt := 5) C.1 C.2.1 dX1_best_126 (by decide) ?_
                  exact ih _ _ _ _ _ _ _ _  Wd hf (lv_sub hl [4, 5, 6, 1, 0] rfl)
                · replace hf := hf.2 hc
                  refine lv_aload_n C.1 C.2.1 dX1_best_88 rfl (lv_at hl 2 rfl) ?_
                  refine m_get_sz C Wd dX1_best_89 ?_
                  refine lv_iload C.1 C.2.1 dX1_best_92 (lv_at hl 6 rfl) ?_
                  refine m_ald_sz C Wd hf.1 dX1_best_94 ?_
                  replace hf := hf.2
                  refine lv_aload_n C.1 C.2.1 dX1_best_95 rfl (lv_at hl 2 rfl) ?_
                  refine m_get_sz C Wd dX1_best_96 ?_
                  refine lv_iload_n C.1 C.2.1 dX1_best_99 rfl (lv_at hl 5 rfl) ?_
                  refine m_ald_sz C Wd hf.1 dX1_best_100 ?_
                  replace hf := hf.2
                  refine lv_icmp_ne (tgt := 123) C.1 C.2.1 dX1_best_101 (by decide) (fun hc => ?_) (fun hc => ?_)
                  · replace hf := hf.1 hc
                    refine lv_iinc (v := v4 + 1) (lv' := [(4, .int (v4 + 1)), (6, .int 1), (5, .int r17), (0, .ref (m_h ad)), (1, .int v1), (2, .int v2), (3, .int v3)]) C.1 C.2.1 dX1_best_123 hl (k := 6) rfl rfl (by decide) rfl (fun ls hl => ?_)
                    refine lv_goto (tgt := 5) C.1 C.2.1 dX1_best_126 (by decide) ?_
                    exact ih _ _ _ _ _ _ _ _  Wd hf (lv_sub hl [3, 4, 5, 6, 0] rfl)
                  · replace hf := hf.2 hc
                    refine lv_aload_n C.1 C.2.1 dX1_best_104 rfl (lv_at hl 2 rfl) ?_
                    refine m_get_ca C Wd dX1_best_105 ?_
                    refine lv_iload C.1 C.2.1 dX1_best_108 (lv_at hl 6 rfl) ?_
                    refine m_ald_ca C Wd hf.1 dX1_best_110 ?_
                    replace hf := hf.2
                    refine lv_aload_n C.1 C.2.1 dX1_best_111 rfl (lv_at hl 2 rfl) ?_
                    refine m_get_ca C Wd dX1_best_112 ?_
                    refine lv_iload_n C.1 C.2.1 dX1_best_115 rfl (lv_at hl 5 rfl) ?_
                    refine m_ald_ca C Wd hf.1 dX1_best_116 ?_
                    replace hf := hf.2
                    refine lv_icmp_le (tgt := 123) C.1 C.2.1 dX1_best_117 (by decide) (fun hc => ?_) (fun hc => ?_)
                    · replace hf := hf.1 hc
                      refine lv_iinc (v := v4 + 1) (lv' := [(4, .int (v4 + 1)), (6, .int 1), (5, .int r17), (0, .ref (m_h ad)), (1, .int v1), (2, .int v2), (3, .int v3)]) C.1 C.2.1 dX1_best_123 hl (k := 6) rfl rfl (by decide) rfl (fun ls hl => ?_)
                      refine lv_goto (tgt := 5) C.1 C.2.1 dX1_best_126 (by decide) ?_
                      exact ih _ _ _ _ _ _ _ _  Wd hf (lv_sub hl [3, 4, 5, 6, 0] rfl)
                    · replace hf := hf.2 hc
                      refine lv_iload C.1 C.2.1 dX1_best_120 (lv_at hl 6 rfl) ?_
                      refine lv_istore_n (lv' := [(3, .int v4), (6, .int 1), (5, .int r17), (0, .ref (m_h ad)), (1, .int v1), (2, .int v2), (4, .int v4)]) C.1 C.2.1 dX1_best_122 rfl hl (by decide) rfl (fun ls hl => ?_)
                      refine lv_iinc (v := v4 + 1) (lv' := [(4, .int (v4 + 1)), (3, .int v4), (6, .int 1), (5, .int r17), (0, .ref (m_h ad)), (1, .int v1), (2, .int v2)]) C.1 C.2.1 dX1_best_123 hl (k := 6) rfl rfl (by decide) rfl (fun ls hl => ?_)
                      refine lv_goto (tgt := 5) C.1 C.2.1 dX1_best_126 (by decide) ?_
                      exact ih _ _ _ _ _ _ _ _  Wd hf (lv_sub hl [4, 5, 6, 1, 0] rfl)
theorem bM_best_5 {p : Program} {l : Launch} {e : Env} {s : State} {m : MethodId} {args : Array Value} {below : List Frame} {meth : Method} {c : Code} {D : va_G} {ad : MA} {A : Nat → Prop} (C : m_C p s m args meth c cX1_best 7 (some .int)) {post : Int32 → MS → Prop} {σ : MS} {H : Heap} {locs : List Loc} {ls : Array Slot} {v1 : Int32} {v2 : Int32} {v3 : Int32} {v4 : Int32} (Wd : m_W D ad σ A s H locs) (hf : ∃ f : Nat, wM_best_5 (m_lim ad) post f σ v1 v2 v3 v4) (hl : lv_has ls 7 [(0, .ref (m_h ad)), (1, .int v1), (2, .int v2), (3, .int v3), (4, .int v4)]) : W p l e { frames := 1, cells := 0, slots := 0, locals := 21 } s m args below meth c H locs 0 0 (m_Qi below D ad A args s post) (F0 m 5 ls []) := by
  obtain ⟨f, hf⟩ := hf
  exact bM_best_5_f C f σ H locs ls v1 v2 v3 v4 Wd hf hl
set_option maxHeartbeats 4000000 in
set_option maxRecDepth 100000 in
theorem cM_best (l : Launch) (D : va_G) (ad : MA) (v1 : Int32) (v2 : Int32) : m_Mi l D yX1_best cX1_best 7 (some .int) { frames := 1, cells := 0, slots := 0, locals := 21 } ad [.ref (m_h ad), .int v1, .int v2] (fun σ post => wM_best (m_lim ad) σ v1 v2 post) := by
  refine m_ofi ⟨by decide, rfl, Nat.le_of_ble_eq_true rfl⟩ (fun {p e s m args below meth c σ A post ls} C Wd hf hl => ?_)
  replace hl : lv_has ls 7 [(0, .ref (m_h ad)), (1, .int v1), (2, .int v2)] := hl
  refine lv_iconst (v := (-1)) C.1 C.2.1 dX1_best_0 (by decide) ?_
  refine lv_istore_n (lv' := [(3, .int (-1)), (0, .ref (m_h ad)), (1, .int v1), (2, .int v2)]) C.1 C.2.1 dX1_best_1 rfl hl (by decide) rfl (fun ls hl => ?_)
  refine lv_iconst (v := 0) C.1 C.2.1 dX1_best_2 (by decide) ?_
  refine lv_istore (lv' := [(4, .int 0), (3, .int (-1)), (0, .ref (m_h ad)), (1, .int v1), (2, .int v2)]) C.1 C.2.1 dX1_best_3 hl (by decide) rfl (fun ls hl => ?_)
  exact bM_best_5 C Wd hf (lv_sub hl [2, 3, 4, 1, 0] rfl)
