set_option maxHeartbeats 4000000 in
set_option maxRecDepth 100000 in
theorem cX_realloc (l : Launch) (D : va_G) (ad : XA) (v1 : Int32) (v2 : Int32) : x_Mi l D yX0_realloc cX0_realloc 5 (some .int) { frames := 6, cells := 0, slots := 0, locals := 161 } ad [.ref (x_h ad), .int v1, .int v2] (fun σ post => wX_realloc (x_n ad) (x_lim ad) σ v1 v2 post) := by
  refine x_ofi ⟨by decide, rfl, Nat.le_of_ble_eq_true rfl⟩ (fun {p e s m args below meth c σ A post ls} C Wd hf hl => ?_)
  replace hl : lv_has ls 5 [(0, .ref (x_h ad)), (1, .int v1), (2, .int v2)] := hl
  refine lv_aload_n C.1 C.2.1 dX0_realloc_0 rfl (lv_at hl 0 rfl) ?_
  refine lv_iload_n C.1 C.2.1 dX0_realloc_1 rfl (lv_at hl 1 rfl) ?_
  refine x_calliv (As := [.int v1]) (rest := []) C Wd (cX_isPointer l D ad v1) sX_isPointer (by decide) rfl hl.1 rfl (Nat.le_of_ble_eq_true rfl) (by decide) dX0_realloc_2 hf (fun r2 σ2 H locs hf Wd => ?_)
  refine lv_if_eq (tgt := 15) C.1 C.2.1 dX0_realloc_5 (by decide) (fun hc => ?_) (fun hc => ?_)
  · replace hf := hf.1 hc
    refine lv_iconst (v := 0) C.1 C.2.1 dX0_realloc_15 (by decide) ?_
    exact x_iret C Wd hf dX0_realloc_16
  · replace hf := hf.2 hc
    refine lv_iload_n C.1 C.2.1 dX0_realloc_8 rfl (lv_at hl 2 rfl) ?_
    refine lv_sipush (v := 511) C.1 C.2.1 dX0_realloc_9 (by decide) ?_
    refine lv_icmp_le (tgt := 17) C.1 C.2.1 dX0_realloc_12 (by decide) (fun hc => ?_) (fun hc => ?_)
    · replace hf := hf.1 hc
      refine lv_iload_n C.1 C.2.1 dX0_realloc_17 rfl (lv_at hl 1 rfl) ?_
      refine lv_iconst (v := 1) C.1 C.2.1 dX0_realloc_18 (by decide) ?_
      refine lv_isub C.1 C.2.1 dX0_realloc_19 ?_
      refine lv_istore_n (lv' := [(3, .int (v1 - 1)), (0, .ref (x_h ad)), (1, .int v1), (2, .int v2)]) C.1 C.2.1 dX0_realloc_20 rfl hl (by decide) rfl (fun ls hl => ?_)
      refine lv_iload_n C.1 C.2.1 dX0_realloc_21 rfl (lv_at hl 3 rfl) ?_
      refine x_callis (As := [.int v2]) (rest := []) C Wd (cX_unitsFor l D ad v2) sX_unitsFor (by decide) rfl hl.1 rfl (Nat.le_of_ble_eq_true rfl) (by decide) dX0_realloc_22 hf (fun r22 σ22 H locs hf Wd => ?_)
      refine lv_istore (lv' := [(4, .int r22), (3, .int (v1 - 1)), (0, .ref (x_h ad)), (1, .int v1), (2, .int v2)]) C.1 C.2.1 dX0_realloc_25 hl (by decide) rfl (fun ls hl => ?_)
      refine lv_aload_n C.1 C.2.1 dX0_realloc_27 rfl (lv_at hl 2 rfl) ?_
      refine x_get_z C Wd dX0_realloc_28 ?_
      refine lv_iload_n C.1 C.2.1 dX0_realloc_31 rfl (lv_at hl 1 rfl) ?_
      refine x_ald_z C Wd hf.1 dX0_realloc_32 ?_
      replace hf := hf.2
      refine lv_iload C.1 C.2.1 dX0_realloc_33 (lv_at hl 0 rfl) ?_
      refine lv_icmp_lt (tgt := 47) C.1 C.2.1 dX0_realloc_35 (by decide) (fun hc => ?_) (fun hc => ?_)
      · replace hf := hf.1 hc
        refine lv_aload_n C.1 C.2.1 dX0_realloc_47 rfl (lv_at hl 2 rfl) ?_
        refine lv_iload_n C.1 C.2.1 dX0_realloc_48 rfl (lv_at hl 1 rfl) ?_
        refine lv_iload C.1 C.2.1 dX0_realloc_49 (lv_at hl 0 rfl) ?_
        refine x_calliv (As := [.int (v1 - 1), .int r22]) (rest := []) C Wd (cX_lengthen l D ad (v1 - 1) r22) sX_lengthen (by decide) rfl hl.1 rfl (Nat.le_of_ble_eq_true rfl) (by decide) dX0_realloc_51 hf (fun r51 σ51 H locs hf Wd => ?_)
        refine lv_if_eq (tgt := 61) C.1 C.2.1 dX0_realloc_54 (by decide) (fun hc => ?_) (fun hc => ?_)
        · replace hf := hf.1 hc
          refine lv_aload_n C.1 C.2.1 dX0_realloc_61 rfl (lv_at hl 2 rfl) ?_
          refine lv_iload_n C.1 C.2.1 dX0_realloc_62 rfl (lv_at hl 1 rfl) ?_
          refine lv_iload C.1 C.2.1 dX0_realloc_63 (lv_at hl 0 rfl) ?_
          refine x_calliv (As := [.int (v1 - 1), .int r22]) (rest := []) C Wd (cX_move l D ad (v1 - 1) r22) sX_move (by decide) rfl hl.1 rfl (Nat.le_of_ble_eq_true rfl) (by decide) dX0_realloc_65 hf (fun r65 σ65 H locs hf Wd => ?_)
          refine x_callis (As := [.int r65]) (rest := []) C Wd (cX_pointerTo l D ad r65) sX_pointerTo (by decide) rfl hl.1 rfl (Nat.le_of_ble_eq_true rfl) (by decide) dX0_realloc_68 hf (fun r68 σ68 H locs hf Wd => ?_)
          exact x_iret C Wd hf dX0_realloc_71
        · replace hf := hf.2 hc
          refine lv_iload_n C.1 C.2.1 dX0_realloc_57 rfl (lv_at hl 3 rfl) ?_
          refine lv_goto (tgt := 71) C.1 C.2.1 dX0_realloc_58 (by decide) ?_
          exact x_iret C Wd hf dX0_realloc_71
      · replace hf := hf.2 hc
        refine lv_aload_n C.1 C.2.1 dX0_realloc_38 rfl (lv_at hl 2 rfl) ?_
        refine lv_iload_n C.1 C.2.1 dX0_realloc_39 rfl (lv_at hl 1 rfl) ?_
        refine lv_iload C.1 C.2.1 dX0_realloc_40 (lv_at hl 0 rfl) ?_
        refine x_callvv (As := [.int (v1 - 1), .int r22]) (rest := []) C Wd (cX_shorten l D ad (v1 - 1) r22) sX_shorten (by decide) rfl hl.1 rfl (Nat.le_of_ble_eq_true rfl) (by decide) dX0_realloc_42 hf (fun σ42 H locs hf Wd => ?_)
        refine lv_iload_n C.1 C.2.1 dX0_realloc_45 rfl (lv_at hl 3 rfl) ?_
        exact x_iret C Wd hf dX0_realloc_46
    · replace hf := hf.2 hc
      refine lv_iconst (v := 0) C.1 C.2.1 dX0_realloc_15 (by decide) ?_
      exact x_iret C Wd hf dX0_realloc_16
set_option maxHeartbeats 4000000 in
set_option maxRecDepth 100000 in
theorem cX_isAlignment (l : Launch) (D : va_G) (ad : XA) (v0 : Int32) : x_Mi l D yX0_isAlignment cX0_isAlignment 1 (some .boolean) { frames := 0, cells := 0, slots := 0, locals := 0 } ad [.int v0] (fun σ post => wX_isAlignment (x_n ad) (x_lim ad) σ v0 post) := by
  refine x_ofi ⟨by decide, rfl, Nat.le_of_ble_eq_true rfl⟩ (fun {p e s m args below meth c σ A post ls} C Wd hf hl => ?_)
  replace hl : lv_has ls 1 [(0, .int v0)] := hl
  refine lv_iload_n C.1 C.2.1 dX0_isAlignment_0 rfl (lv_at hl 0 rfl) ?_
  refine lv_iconst (v := 2) C.1 C.2.1 dX0_isAlignment_1 (by decide) ?_
  refine lv_icmp_eq (tgt := 22) C.1 C.2.1 dX0_isAlignment_2 (by decide) (fun hc => ?_) (fun hc => ?_)
  · replace hf := hf.1 hc
    refine lv_iconst (v := 1) C.1 C.2.1 dX0_isAlignment_22 (by decide) ?_
    refine lv_goto (tgt := 27) C.1 C.2.1 dX0_isAlignment_23 (by decide) ?_
    exact x_zret C Wd (by decide) hf dX0_isAlignment_27
  · replace hf := hf.2 hc
    refine lv_iload_n C.1 C.2.1 dX0_isAlignment_5 rfl (lv_at hl 0 rfl) ?_
    refine lv_iconst (v := 4) C.1 C.2.1 dX0_isAlignment_6 (by decide) ?_
    refine lv_icmp_eq (tgt := 22) C.1 C.2.1 dX0_isAlignment_7 (by decide) (fun hc => ?_) (fun hc => ?_)
    · replace hf := hf.1 hc
      refine lv_iconst (v := 1) C.1 C.2.1 dX0_isAlignment_22 (by decide) ?_
      refine lv_goto (tgt := 27) C.1 C.2.1 dX0_isAlignment_23 (by decide) ?_
      exact x_zret C Wd (by decide) hf dX0_isAlignment_27
    · replace hf := hf.2 hc
      refine lv_iload_n C.1 C.2.1 dX0_isAlignment_10 rfl (lv_at hl 0 rfl) ?_
      refine lv_bipush (v := 8) C.1 C.2.1 dX0_isAlignment_11 (by decide) ?_
      refine lv_icmp_eq (tgt := 22) C.1 C.2.1 dX0_isAlignment_13 (by decide) (fun hc => ?_) (fun hc => ?_)
      · replace hf := hf.1 hc
        refine lv_iconst (v := 1) C.1 C.2.1 dX0_isAlignment_22 (by decide) ?_
        refine lv_goto (tgt := 27) C.1 C.2.1 dX0_isAlignment_23 (by decide) ?_
        exact x_zret C Wd (by decide) hf dX0_isAlignment_27
      · replace hf := hf.2 hc
        refine lv_iload_n C.1 C.2.1 dX0_isAlignment_16 rfl (lv_at hl 0 rfl) ?_
        refine lv_bipush (v := 16) C.1 C.2.1 dX0_isAlignment_17 (by decide) ?_
        refine lv_icmp_ne (tgt := 26) C.1 C.2.1 dX0_isAlignment_19 (by decide) (fun hc => ?_) (fun hc => ?_)
        · replace hf := hf.1 hc
          refine lv_iconst (v := 0) C.1 C.2.1 dX0_isAlignment_26 (by decide) ?_
          exact x_zret C Wd (by decide) hf dX0_isAlignment_27
        · replace hf := hf.2 hc
          refine lv_iconst (v := 1) C.1 C.2.1 dX0_isAlignment_22 (by decide) ?_
          refine lv_goto (tgt := 27) C.1 C.2.1 dX0_isAlignment_23 (by decide) ?_
          exact x_zret C Wd (by decide) hf dX0_isAlignment_27
set_option maxHeartbeats 4000000 in
set_option maxRecDepth 100000 in
theorem cX_unitsInFront (l : Launch) (D : va_G) (ad : XA) (v0 : Int32) (v1 : Int32) : x_Mi l D yX0_unitsInFront cX0_unitsInFront 4 (some .int) { frames := 0, cells := 0, slots := 0, locals := 0 } ad [.int v0, .int v1] (fun σ post => wX_unitsInFront (x_n ad) (x_lim ad) σ v0 v1 post) := by
  refine x_ofi ⟨by decide, rfl, Nat.le_of_ble_eq_true rfl⟩ (fun {p e s m args below meth c σ A post ls} C Wd hf hl => ?_)
  replace hl : lv_has ls 4 [(0, .int v0), (1, .int v1)] := hl
  refine lv_iload_n C.1 C.2.1 dX0_unitsInFront_0 rfl (lv_at hl 0 rfl) ?_
  refine lv_iload_n C.1 C.2.1 dX0_unitsInFront_1 rfl (lv_at hl 1 rfl) ?_
  refine lv_irem C.1 C.2.1 dX0_unitsInFront_2 hf.1 ?_
  replace hf := hf.2
  refine lv_istore_n (lv' := [(2, .int (v0 - v0 / v1 * v1)), (0, .int v0), (1, .int v1)]) C.1 C.2.1 dX0_unitsInFront_3 rfl hl (by decide) rfl (fun ls hl => ?_)
  refine lv_iload_n C.1 C.2.1 dX0_unitsInFront_4 rfl (lv_at hl 0 rfl) ?_
  refine lv_if_ne (tgt := 10) C.1 C.2.1 dX0_unitsInFront_5 (by decide) (fun hc => ?_) (fun hc => ?_)
  · replace hf := hf.1 hc
    refine lv_iload_n C.1 C.2.1 dX0_unitsInFront_10 rfl (lv_at hl 2 rfl) ?_
    refine lv_iload_n C.1 C.2.1 dX0_unitsInFront_11 rfl (lv_at hl 0 rfl) ?_
    refine lv_isub C.1 C.2.1 dX0_unitsInFront_12 ?_
    refine lv_istore_n (lv' := [(3, .int (v1 - (v0 - v0 / v1 * v1))), (2, .int (v0 - v0 / v1 * v1)), (0, .int v0), (1, .int v1)]) C.1 C.2.1 dX0_unitsInFront_13 rfl hl (by decide) rfl (fun ls hl => ?_)
    refine lv_iload_n C.1 C.2.1 dX0_unitsInFront_14 rfl (lv_at hl 0 rfl) ?_
    refine lv_iconst (v := 2) C.1 C.2.1 dX0_unitsInFront_15 (by decide) ?_
    refine lv_icmp_ge (tgt := 25) C.1 C.2.1 dX0_unitsInFront_16 (by decide) (fun hc => ?_) (fun hc => ?_)
    · replace hf := hf.1 hc
      refine lv_iload_n C.1 C.2.1 dX0_unitsInFront_25 rfl (lv_at hl 0 rfl) ?_
      exact x_iret C Wd hf dX0_unitsInFront_26
    · replace hf := hf.2 hc
      refine lv_iload_n C.1 C.2.1 dX0_unitsInFront_19 rfl (lv_at hl 0 rfl) ?_
      refine lv_iload_n C.1 C.2.1 dX0_unitsInFront_20 rfl (lv_at hl 3 rfl) ?_
      refine lv_iadd C.1 C.2.1 dX0_unitsInFront_21 ?_
      refine lv_goto (tgt := 26) C.1 C.2.1 dX0_unitsInFront_22 (by decide) ?_
      exact x_iret C Wd hf dX0_unitsInFront_26
  · replace hf := hf.2 hc
    refine lv_iconst (v := 0) C.1 C.2.1 dX0_unitsInFront_8 (by decide) ?_
    exact x_iret C Wd hf dX0_unitsInFront_9
set_option maxHeartbeats 4000000 in
set_option maxRecDepth 100000 in
theorem bX_align_71 {p : Program} {l : Launch} {e : Env} {s : State} {m : MethodId} {args : Array Value} {below : List Frame} {meth : Method} {c : Code} {D : va_G} {ad : XA} {A : Nat → Prop} (C : x_C p s m args meth c cX0_align 6 (some .int)) {post : Int32 → XS → Prop} {σ : XS} {H : Heap} {locs : List Loc} {ls : Array Slot} {v3 : Int32} {v4 : Int32} {v5 : Int32} (Wd : x_W D ad σ A s H locs) (hf : wX_align_71 (x_n ad) (x_lim ad) σ v3 v4 v5 post) (hl : lv_has ls 6 [(0, .ref (x_h ad)), (3, .int v3), (4, .int v4), (5, .int v5)]) : W p l e { frames := 5, cells := 0, slots := 0, locals := 138 } s m args below meth c H locs 0 0 (x_Qi below D ad A args s post) (F0 m 71 ls []) := by
  refine lv_aload_n C.1 C.2.1 dX0_align_71 rfl (lv_at hl 0 rfl) ?_
  refine lv_iload C.1 C.2.1 dX0_align_72 (lv_at hl 2 rfl) ?_
  refine lv_iload C.1 C.2.1 dX0_align_74 (lv_at hl 3 rfl) ?_
  refine lv_iadd C.1 C.2.1 dX0_align_76 ?_
  refine lv_iload_n C.1 C.2.1 dX0_align_77 rfl (lv_at hl 1 rfl) ?_
  refine x_callvv (As := [.int (v4 + v5), .int v3]) (rest := []) C Wd (cX_shorten l D ad (v4 + v5) v3) sX_shorten (by decide) rfl hl.1 rfl (Nat.le_of_ble_eq_true rfl) (by decide) dX0_align_78 hf (fun σ78 H locs hf Wd => ?_)
  refine lv_iload C.1 C.2.1 dX0_align_81 (lv_at hl 2 rfl) ?_
  refine lv_iload C.1 C.2.1 dX0_align_83 (lv_at hl 3 rfl) ?_
  refine lv_iadd C.1 C.2.1 dX0_align_85 ?_
  refine x_callis (As := [.int (v4 + v5)]) (rest := []) C Wd (cX_pointerTo l D ad (v4 + v5)) sX_pointerTo (by decide) rfl hl.1 rfl (Nat.le_of_ble_eq_true rfl) (by decide) dX0_align_86 hf (fun r86 σ86 H locs hf Wd => ?_)
  exact x_iret C Wd hf dX0_align_89
set_option maxHeartbeats 4000000 in
set_option maxRecDepth 100000 in
theorem cX_align (l : Launch) (D : va_G) (ad : XA) (v1 : Int32) (v2 : Int32) : x_Mi l D yX0_align cX0_align 6 (some .int) { frames := 5, cells := 0, slots := 0, locals := 138 } ad [.ref (x_h ad), .int v1, .int v2] (fun σ post => wX_align (x_n ad) (x_lim ad) σ v1 v2 post) := by
  refine x_ofi ⟨by decide, rfl, Nat.le_of_ble_eq_true rfl⟩ (fun {p e s m args below meth c σ A post ls} C Wd hf hl => ?_)
  replace hl : lv_has ls 6 [(0, .ref (x_h ad)), (1, .int v1), (2, .int v2)] := hl
  refine lv_iload_n C.1 C.2.1 dX0_align_0 rfl (lv_at hl 1 rfl) ?_
  refine lv_sipush (v := 511) C.1 C.2.1 dX0_align_1 (by decide) ?_
  refine lv_icmp_gt (tgt := 14) C.1 C.2.1 dX0_align_4 (by decide) (fun hc => ?_) (fun hc => ?_)
  · replace hf := hf.1 hc
    refine lv_iconst (v := 0) C.1 C.2.1 dX0_align_14 (by decide) ?_
    exact x_iret C Wd hf dX0_align_15
  · replace hf := hf.2 hc
    refine lv_iload_n C.1 C.2.1 dX0_align_7 rfl (lv_at hl 2 rfl) ?_
    refine x_callis (As := [.int v2]) (rest := []) C Wd (cX_isAlignment l D ad v2) sX_isAlignment (by decide) rfl hl.1 rfl (Nat.le_of_ble_eq_true rfl) (by decide) dX0_align_8 hf (fun r8 σ8 H locs hf Wd => ?_)
    refine lv_if_ne (tgt := 16) C.1 C.2.1 dX0_align_11 (by decide) (fun hc => ?_) (fun hc => ?_)
    · replace hf := hf.1 hc
      refine lv_iload_n C.1 C.2.1 dX0_align_16 rfl (lv_at hl 1 rfl) ?_
      refine x_callis (As := [.int v1]) (rest := []) C Wd (cX_unitsFor l D ad v1) sX_unitsFor (by decide) rfl hl.1 rfl (Nat.le_of_ble_eq_true rfl) (by decide) dX0_align_17 hf (fun r17 σ17 H locs hf Wd => ?_)
      refine lv_istore_n (lv' := [(3, .int r17), (0, .ref (x_h ad)), (1, .int v1), (2, .int v2)]) C.1 C.2.1 dX0_align_20 rfl hl (by decide) rfl (fun ls hl => ?_)
      refine lv_aload_n C.1 C.2.1 dX0_align_21 rfl (lv_at hl 1 rfl) ?_
      refine lv_iload_n C.1 C.2.1 dX0_align_22 rfl (lv_at hl 0 rfl) ?_
      refine lv_iload_n C.1 C.2.1 dX0_align_23 rfl (lv_at hl 3 rfl) ?_
      refine lv_iadd C.1 C.2.1 dX0_align_24 ?_
      refine lv_iconst (v := 2) C.1 C.2.1 dX0_align_25 (by decide) ?_
      refine lv_iadd C.1 C.2.1 dX0_align_26 ?_
      refine x_calliv (As := [.int ((r17 + v2) + 2)]) (rest := []) C Wd (cX_take l D ad ((r17 + v2) + 2)) sX_take (by decide) rfl hl.1 rfl (Nat.le_of_ble_eq_true rfl) (by decide) dX0_align_27 hf (fun r27 σ27 H locs hf Wd => ?_)
      refine lv_istore (lv' := [(4, .int r27), (3, .int r17), (0, .ref (x_h ad)), (1, .int v1), (2, .int v2)]) C.1 C.2.1 dX0_align_30 hl (by decide) rfl (fun ls hl => ?_)
      refine lv_iload C.1 C.2.1 dX0_align_32 (lv_at hl 0 rfl) ?_
      refine lv_iconst (v := (-1)) C.1 C.2.1 dX0_align_34 (by decide) ?_
      refine lv_icmp_ne (tgt := 40) C.1 C.2.1 dX0_align_35 (by decide) (fun hc => ?_) (fun hc => ?_)
      · replace hf := hf.1 hc
        refine lv_iload C.1 C.2.1 dX0_align_40 (lv_at hl 0 rfl) ?_
        refine lv_iconst (v := 1) C.1 C.2.1 dX0_align_42 (by decide) ?_
        refine lv_iadd C.1 C.2.1 dX0_align_43 ?_
        refine lv_iload_n C.1 C.2.1 dX0_align_44 rfl (lv_at hl 4 rfl) ?_
        refine x_callis (As := [.int (r27 + 1), .int v2]) (rest := []) C Wd (cX_unitsInFront l D ad (r27 + 1) v2) sX_unitsInFront (by decide) rfl hl.1 rfl (Nat.le_of_ble_eq_true rfl) (by decide) dX0_align_45 hf (fun r45 σ45 H locs hf Wd => ?_)
        refine lv_istore (lv' := [(5, .int r45), (4, .int r27), (3, .int r17), (0, .ref (x_h ad)), (1, .int v1), (2, .int v2)]) C.1 C.2.1 dX0_align_48 hl (by decide) rfl (fun ls hl => ?_)
        refine lv_iload C.1 C.2.1 dX0_align_50 (lv_at hl 0 rfl) ?_
        refine lv_if_le (tgt := 71) C.1 C.2.1 dX0_align_52 (by decide) (fun hc => ?_) (fun hc => ?_)
        · replace hf := hf.1 hc
          exact bX_align_71 C Wd hf (lv_sub hl [3, 2, 1, 0] rfl)
        · replace hf := hf.2 hc
          refine lv_aload_n C.1 C.2.1 dX0_align_55 rfl (lv_at hl 3 rfl) ?_
          refine lv_iload C.1 C.2.1 dX0_align_56 (lv_at hl 1 rfl) ?_
          refine lv_iload C.1 C.2.1 dX0_align_58 (lv_at hl 0 rfl) ?_
          refine lv_iconst (v := 0) C.1 C.2.1 dX0_align_60 (by decide) ?_
          refine x_calliv (As := [.int r27, .int r45, .int 0]) (rest := []) C Wd (cX_cut l D ad r27 r45 0) sX_cut (by decide) rfl hl.1 rfl (Nat.le_of_ble_eq_true rfl) (by decide) dX0_align_61 hf (fun r61 σ61 H locs hf Wd => ?_)
          refine lv_pop C.1 C.2.1 dX0_align_64 rfl ?_
          refine lv_aload_n C.1 C.2.1 dX0_align_65 rfl (lv_at hl 3 rfl) ?_
          refine lv_iload C.1 C.2.1 dX0_align_66 (lv_at hl 1 rfl) ?_
          refine x_callvv (As := [.int r27]) (rest := []) C Wd (cX_release l D ad r27) sX_release (by decide) rfl hl.1 rfl (Nat.le_of_ble_eq_true rfl) (by decide) dX0_align_68 hf (fun σ68 H locs hf Wd => ?_)
          exact bX_align_71 C Wd hf (lv_sub hl [3, 2, 1, 0] rfl)
      · replace hf := hf.2 hc
        refine lv_iconst (v := 0) C.1 C.2.1 dX0_align_38 (by decide) ?_
        exact x_iret C Wd hf dX0_align_39
    · replace hf := hf.2 hc
      refine lv_iconst (v := 0) C.1 C.2.1 dX0_align_14 (by decide) ?_
      exact x_iret C Wd hf dX0_align_15
set_option maxHeartbeats 4000000 in
set_option maxRecDepth 100000 in
theorem cX_shrinkTop (l : Launch) (D : va_G) (ad : XA) (v1 : Int32) : x_Mv l D yX0_shrinkTop cX0_shrinkTop 4 none { frames := 1, cells := 0, slots := 0, locals := 23 } ad [.ref (x_h ad), .int v1] (fun σ post => wX_shrinkTop (x_n ad) (x_lim ad) σ v1 post) := by
  refine x_ofv ⟨by decide, rfl, Nat.le_of_ble_eq_true rfl⟩ (fun {p e s m args below meth c σ A post ls} C Wd hf hl => ?_)
  replace hl : lv_has ls 4 [(0, .ref (x_h ad)), (1, .int v1)] := hl
  refine lv_aload_n C.1 C.2.1 dX0_shrinkTop_0 rfl (lv_at hl 0 rfl) ?_
  refine x_get_tp C Wd dX0_shrinkTop_1 ?_
  refine lv_istore_n (lv' := [(2, .int (x_tp σ)), (0, .ref (x_h ad)), (1, .int v1)]) C.1 C.2.1 dX0_shrinkTop_4 rfl hl (by decide) rfl (fun ls hl => ?_)
  refine lv_aload_n C.1 C.2.1 dX0_shrinkTop_5 rfl (lv_at hl 1 rfl) ?_
  refine lv_aload_n C.1 C.2.1 dX0_shrinkTop_6 rfl (lv_at hl 1 rfl) ?_
  refine x_get_tp C Wd dX0_shrinkTop_7 ?_
  refine x_calliv (As := [.int (x_tp σ)]) (rest := []) C Wd (cX_lift l D ad (x_tp σ)) sX_lift (by decide) rfl hl.1 rfl (Nat.le_of_ble_eq_true rfl) (by decide) dX0_shrinkTop_10 hf (fun r10 σ10 H locs hf Wd => ?_)
  refine lv_iload_n C.1 C.2.1 dX0_shrinkTop_13 rfl (lv_at hl 2 rfl) ?_
  refine lv_isub C.1 C.2.1 dX0_shrinkTop_14 ?_
  refine lv_istore_n (lv' := [(3, .int (r10 - v1)), (2, .int (x_tp σ)), (0, .ref (x_h ad)), (1, .int v1)]) C.1 C.2.1 dX0_shrinkTop_15 rfl hl (by decide) rfl (fun ls hl => ?_)
  refine lv_aload_n C.1 C.2.1 dX0_shrinkTop_16 rfl (lv_at hl 2 rfl) ?_
  refine lv_dup C.1 C.2.1 dX0_shrinkTop_17 rfl ?_
  refine x_get_en C Wd dX0_shrinkTop_18 ?_
  refine lv_iload_n C.1 C.2.1 dX0_shrinkTop_21 rfl (lv_at hl 3 rfl) ?_
  refine lv_isub C.1 C.2.1 dX0_shrinkTop_22 ?_
  refine x_put_en C Wd dX0_shrinkTop_23 (fun H locs Wd => ?_)
  refine lv_iload_n C.1 C.2.1 dX0_shrinkTop_26 rfl (lv_at hl 0 rfl) ?_
  refine lv_if_le (tgt := 37) C.1 C.2.1 dX0_shrinkTop_27 (by decide) (fun hc => ?_) (fun hc => ?_)
  · replace hf := hf.1 hc
    exact x_vret C Wd hf dX0_shrinkTop_37
  · replace hf := hf.2 hc
    refine lv_aload_n C.1 C.2.1 dX0_shrinkTop_30 rfl (lv_at hl 2 rfl) ?_
    refine lv_iload_n C.1 C.2.1 dX0_shrinkTop_31 rfl (lv_at hl 1 rfl) ?_
    refine lv_iload_n C.1 C.2.1 dX0_shrinkTop_32 rfl (lv_at hl 0 rfl) ?_
    refine lv_iconst (v := 4) C.1 C.2.1 dX0_shrinkTop_33 (by decide) ?_
    refine x_callvv (As := [.int (x_tp σ), .int (r10 - v1), .int 4]) (rest := []) C Wd (cX_lay l D ad (x_tp σ) (r10 - v1) 4) sX_lay (by decide) rfl hl.1 rfl (Nat.le_of_ble_eq_true rfl) (by decide) dX0_shrinkTop_34 hf (fun σ34 H locs hf Wd => ?_)
    exact x_vret C Wd hf dX0_shrinkTop_37
set_option maxHeartbeats 4000000 in
set_option maxRecDepth 100000 in
theorem bX_trim_44 {p : Program} {l : Launch} {e : Env} {s : State} {m : MethodId} {args : Array Value} {below : List Frame} {meth : Method} {c : Code} {D : va_G} {ad : XA} {A : Nat → Prop} (C : x_C p s m args meth c cX0_trim 5 (some .int)) {post : Int32 → XS → Prop} {σ : XS} {H : Heap} {locs : List Loc} {ls : Array Slot} {v4 : Int32} (Wd : x_W D ad σ A s H locs) (hf : wX_trim_44 (x_n ad) (x_lim ad) σ v4 post) (hl : lv_has ls 5 [(0, .ref (x_h ad)), (4, .int v4)]) : W p l e { frames := 2, cells := 0, slots := 0, locals := 46 } s m args below meth c H locs 0 0 (x_Qi below D ad A args s post) (F0 m 44 ls []) := by
  refine lv_aload_n C.1 C.2.1 dX0_trim_44 rfl (lv_at hl 0 rfl) ?_
  refine lv_iload C.1 C.2.1 dX0_trim_45 (lv_at hl 1 rfl) ?_
  refine x_callvv (As := [.int v4]) (rest := []) C Wd (cX_shrinkTop l D ad v4) sX_shrinkTop (by decide) rfl hl.1 rfl (Nat.le_of_ble_eq_true rfl) (by decide) dX0_trim_47 hf (fun σ47 H locs hf Wd => ?_)
  refine lv_iload C.1 C.2.1 dX0_trim_50 (lv_at hl 1 rfl) ?_
  exact x_iret C Wd hf dX0_trim_52
set_option maxHeartbeats 4000000 in
set_option maxRecDepth 100000 in
theorem cX_trim (l : Launch) (D : va_G) (ad : XA) (v1 : Int32) : x_Mi l D yX0_trim cX0_trim 5 (some .int) { frames := 2, cells := 0, slots := 0, locals := 46 } ad [.ref (x_h ad), .int v1] (fun σ post => wX_trim (x_n ad) (x_lim ad) σ v1 post) := by
  refine x_ofi ⟨by decide, rfl, Nat.le_of_ble_eq_true rfl⟩ (fun {p e s m args below meth c σ A post ls} C Wd hf hl => ?_)
  replace hl : lv_has ls 5 [(0, .ref (x_h ad)), (1, .int v1)] := hl
  refine lv_aload_n C.1 C.2.1 dX0_trim_0 rfl (lv_at hl 0 rfl) ?_
  refine lv_aload_n C.1 C.2.1 dX0_trim_1 rfl (lv_at hl 0 rfl) ?_
  refine x_get_tp C Wd dX0_trim_2 ?_
  refine x_calliv (As := [.int (x_tp σ)]) (rest := []) C Wd (cX_sizeAt l D ad (x_tp σ)) sX_sizeAt (by decide) rfl hl.1 rfl (Nat.le_of_ble_eq_true rfl) (by decide) dX0_trim_5 hf (fun r5 σ5 H locs hf Wd => ?_)
  refine lv_istore_n (lv' := [(2, .int r5), (0, .ref (x_h ad)), (1, .int v1)]) C.1 C.2.1 dX0_trim_8 rfl hl (by decide) rfl (fun ls hl => ?_)
  refine lv_iload_n C.1 C.2.1 dX0_trim_9 rfl (lv_at hl 0 rfl) ?_
  refine lv_iload_n C.1 C.2.1 dX0_trim_10 rfl (lv_at hl 2 rfl) ?_
  refine lv_iconst (v := 0) C.1 C.2.1 dX0_trim_11 (by decide) ?_
  refine x_mmax C hl.1 (Nat.le_of_ble_eq_true rfl) (Nat.le_of_ble_eq_true rfl) (by decide) dX0_trim_12 ?_
  refine lv_isub C.1 C.2.1 dX0_trim_15 ?_
  refine lv_istore_n (lv' := [(3, .int (r5 - (if v1 < 0 then 0 else v1))), (2, .int r5), (0, .ref (x_h ad)), (1, .int v1)]) C.1 C.2.1 dX0_trim_16 rfl hl (by decide) rfl (fun ls hl => ?_)
  refine lv_iload_n C.1 C.2.1 dX0_trim_17 rfl (lv_at hl 0 rfl) ?_
  refine lv_bipush (v := 16) C.1 C.2.1 dX0_trim_18 (by decide) ?_
  refine lv_icmp_ge (tgt := 25) C.1 C.2.1 dX0_trim_20 (by decide) (fun hc => ?_) (fun hc => ?_)
  · replace hf := hf.1 hc
    refine lv_iload_n C.1 C.2.1 dX0_trim_25 rfl (lv_at hl 0 rfl) ?_
    refine lv_iload_n C.1 C.2.1 dX0_trim_26 rfl (lv_at hl 0 rfl) ?_
    refine lv_bipush (v := 16) C.1 C.2.1 dX0_trim_27 (by decide) ?_
    refine lv_irem C.1 C.2.1 dX0_trim_29 (by decide) ?_
    refine lv_isub C.1 C.2.1 dX0_trim_30 ?_
    refine lv_istore (lv' := [(4, .int ((r5 - (if v1 < 0 then 0 else v1)) - ((r5 - (if v1 < 0 then 0 else v1)) - (r5 - (if v1 < 0 then 0 else v1)) / 16 * 16))), (3, .int (r5 - (if v1 < 0 then 0 else v1))), (2, .int r5), (0, .ref (x_h ad)), (1, .int v1)]) C.1 C.2.1 dX0_trim_31 hl (by decide) rfl (fun ls hl => ?_)
    refine lv_iload_n C.1 C.2.1 dX0_trim_33 rfl (lv_at hl 2 rfl) ?_
    refine lv_iload C.1 C.2.1 dX0_trim_34 (lv_at hl 0 rfl) ?_
    refine lv_isub C.1 C.2.1 dX0_trim_36 ?_
    refine lv_iconst (v := 1) C.1 C.2.1 dX0_trim_37 (by decide) ?_
    refine lv_icmp_ne (tgt := 44) C.1 C.2.1 dX0_trim_38 (by decide) (fun hc => ?_) (fun hc => ?_)
    · replace hf := hf.1 hc
      exact bX_trim_44 C Wd hf (lv_sub hl [3, 0] rfl)
    · replace hf := hf.2 hc
      refine lv_iinc (v := ((r5 - (if v1 < 0 then 0 else v1)) - ((r5 - (if v1 < 0 then 0 else v1)) - (r5 - (if v1 < 0 then 0 else v1)) / 16 * 16)) + (-16)) (lv' := [(4, .int (((r5 - (if v1 < 0 then 0 else v1)) - ((r5 - (if v1 < 0 then 0 else v1)) - (r5 - (if v1 < 0 then 0 else v1)) / 16 * 16)) + (-16))), (3, .int (r5 - (if v1 < 0 then 0 else v1))), (2, .int r5), (0, .ref (x_h ad)), (1, .int v1)]) C.1 C.2.1 dX0_trim_41 hl (k := 0) rfl rfl (by decide) rfl (fun ls hl => ?_)
      exact bX_trim_44 C Wd hf (lv_sub hl [3, 0] rfl)
  · replace hf := hf.2 hc
    refine lv_iconst (v := 0) C.1 C.2.1 dX0_trim_23 (by decide) ?_
    exact x_iret C Wd hf dX0_trim_24
set_option maxHeartbeats 4000000 in
set_option maxRecDepth 100000 in
theorem cX_hasData (l : Launch) (D : va_G) (ad : XA) (v1 : Int32) (v2 : Int32) : x_Mi l D yX0_hasData cX0_hasData 3 (some .boolean) { frames := 3, cells := 0, slots := 0, locals := 63 } ad [.ref (x_h ad), .int v1, .int v2] (fun σ post => wX_hasData (x_n ad) (x_lim ad) σ v1 v2 post) := by
  refine x_ofi ⟨by decide, rfl, Nat.le_of_ble_eq_true rfl⟩ (fun {p e s m args below meth c σ A post ls} C Wd hf hl => ?_)
  replace hl : lv_has ls 3 [(0, .ref (x_h ad)), (1, .int v1), (2, .int v2)] := hl
  refine lv_iload_n C.1 C.2.1 dX0_hasData_0 rfl (lv_at hl 2 rfl) ?_
  refine lv_if_lt (tgt := 17) C.1 C.2.1 dX0_hasData_1 (by decide) (fun hc => ?_) (fun hc => ?_)
  · replace hf := hf.1 hc
    refine lv_iconst (v := 0) C.1 C.2.1 dX0_hasData_17 (by decide) ?_
    exact x_zret C Wd (by decide) hf dX0_hasData_18
  · replace hf := hf.2 hc
    refine lv_iload_n C.1 C.2.1 dX0_hasData_4 rfl (lv_at hl 2 rfl) ?_
    refine lv_aload_n C.1 C.2.1 dX0_hasData_5 rfl (lv_at hl 0 rfl) ?_
    refine lv_iload_n C.1 C.2.1 dX0_hasData_6 rfl (lv_at hl 1 rfl) ?_
    refine x_calliv (As := [.int v1]) (rest := [.int v2]) C Wd (cX_usable l D ad v1) sX_usable (by decide) rfl hl.1 rfl (Nat.le_of_ble_eq_true rfl) (by decide) dX0_hasData_7 hf (fun r7 σ7 H locs hf Wd => ?_)
    refine lv_icmp_ge (tgt := 17) C.1 C.2.1 dX0_hasData_10 (by decide) (fun hc => ?_) (fun hc => ?_)
    · replace hf := hf.1 hc
      refine lv_iconst (v := 0) C.1 C.2.1 dX0_hasData_17 (by decide) ?_
      exact x_zret C Wd (by decide) hf dX0_hasData_18
    · replace hf := hf.2 hc
      refine lv_iconst (v := 1) C.1 C.2.1 dX0_hasData_13 (by decide) ?_
      refine lv_goto (tgt := 18) C.1 C.2.1 dX0_hasData_14 (by decide) ?_
      exact x_zret C Wd (by decide) hf dX0_hasData_18
set_option maxHeartbeats 4000000 in
set_option maxRecDepth 100000 in
theorem cX_read (l : Launch) (D : va_G) (ad : XA) (v1 : Int32) (v2 : Int32) : x_Mi l D yX0_read cX0_read 3 (some .int) { frames := 4, cells := 0, slots := 0, locals := 85 } ad [.ref (x_h ad), .int v1, .int v2] (fun σ post => wX_read (x_n ad) (x_lim ad) σ v1 v2 post) := by
  refine x_ofi ⟨by decide, rfl, Nat.le_of_ble_eq_true rfl⟩ (fun {p e s m args below meth c σ A post ls} C Wd hf hl => ?_)
  replace hl : lv_has ls 3 [(0, .ref (x_h ad)), (1, .int v1), (2, .int v2)] := hl
  refine lv_aload_n C.1 C.2.1 dX0_read_0 rfl (lv_at hl 0 rfl) ?_
  refine lv_iload_n C.1 C.2.1 dX0_read_1 rfl (lv_at hl 1 rfl) ?_
  refine lv_iload_n C.1 C.2.1 dX0_read_2 rfl (lv_at hl 2 rfl) ?_
  refine x_calliv (As := [.int v1, .int v2]) (rest := []) C Wd (cX_hasData l D ad v1 v2) sX_hasData (by decide) rfl hl.1 rfl (Nat.le_of_ble_eq_true rfl) (by decide) dX0_read_3 hf (fun r3 σ3 H locs hf Wd => ?_)
  refine lv_if_eq (tgt := 20) C.1 C.2.1 dX0_read_6 (by decide) (fun hc => ?_) (fun hc => ?_)
  · replace hf := hf.1 hc
    refine lv_iconst (v := 0) C.1 C.2.1 dX0_read_20 (by decide) ?_
    exact x_iret C Wd hf dX0_read_21
  · replace hf := hf.2 hc
    refine lv_aload_n C.1 C.2.1 dX0_read_9 rfl (lv_at hl 0 rfl) ?_
    refine x_get_u C Wd dX0_read_10 ?_
    refine lv_iload_n C.1 C.2.1 dX0_read_13 rfl (lv_at hl 1 rfl) ?_
    refine lv_iload_n C.1 C.2.1 dX0_read_14 rfl (lv_at hl 2 rfl) ?_
    refine lv_iadd C.1 C.2.1 dX0_read_15 ?_
    refine x_ald_u C Wd hf.1 dX0_read_16 ?_
    replace hf := hf.2
    refine lv_goto (tgt := 21) C.1 C.2.1 dX0_read_17 (by decide) ?_
    exact x_iret C Wd hf dX0_read_21
set_option maxHeartbeats 4000000 in
set_option maxRecDepth 100000 in
theorem cX_write (l : Launch) (D : va_G) (ad : XA) (v1 : Int32) (v2 : Int32) (v3 : Int32) : x_Mi l D yX0_write cX0_write 4 (some .boolean) { frames := 4, cells := 0, slots := 0, locals := 85 } ad [.ref (x_h ad), .int v1, .int v2, .int v3] (fun σ post => wX_write (x_n ad) (x_lim ad) σ v1 v2 v3 post) := by
  refine x_ofi ⟨by decide, rfl, Nat.le_of_ble_eq_true rfl⟩ (fun {p e s m args below meth c σ A post ls} C Wd hf hl => ?_)
  replace hl : lv_has ls 4 [(0, .ref (x_h ad)), (1, .int v1), (2, .int v2), (3, .int v3)] := hl
  refine lv_aload_n C.1 C.2.1 dX0_write_0 rfl (lv_at hl 0 rfl) ?_
  refine lv_iload_n C.1 C.2.1 dX0_write_1 rfl (lv_at hl 1 rfl) ?_
  refine lv_iload_n C.1 C.2.1 dX0_write_2 rfl (lv_at hl 2 rfl) ?_
  refine x_calliv (As := [.int v1, .int v2]) (rest := []) C Wd (cX_hasData l D ad v1 v2) sX_hasData (by decide) rfl hl.1 rfl (Nat.le_of_ble_eq_true rfl) (by decide) dX0_write_3 hf (fun r3 σ3 H locs hf Wd => ?_)
  refine lv_if_ne (tgt := 11) C.1 C.2.1 dX0_write_6 (by decide) (fun hc => ?_) (fun hc => ?_)
  · replace hf := hf.1 hc
    refine lv_aload_n C.1 C.2.1 dX0_write_11 rfl (lv_at hl 0 rfl) ?_
    refine x_get_u C Wd dX0_write_12 ?_
    refine lv_iload_n C.1 C.2.1 dX0_write_15 rfl (lv_at hl 1 rfl) ?_
    refine lv_iload_n C.1 C.2.1 dX0_write_16 rfl (lv_at hl 2 rfl) ?_
    refine lv_iadd C.1 C.2.1 dX0_write_17 ?_
    refine lv_iload_n C.1 C.2.1 dX0_write_18 rfl (lv_at hl 3 rfl) ?_
    refine x_ast_u C Wd hf.1 dX0_write_19 (fun H locs Wd => ?_)
    replace hf := hf.2
    refine lv_iconst (v := 1) C.1 C.2.1 dX0_write_20 (by decide) ?_
    exact x_zret C Wd (by decide) hf dX0_write_21
  · replace hf := hf.2 hc
    refine lv_iconst (v := 0) C.1 C.2.1 dX0_write_9 (by decide) ?_
    exact x_zret C Wd (by decide) hf dX0_write_10
set_option maxHeartbeats 4000000 in
set_option maxRecDepth 100000 in
theorem cX_size (l : Launch) (D : va_G) (ad : XA) (v1 : Int32) : x_Mi l D yX0_size cX0_size 2 (some .int) { frames := 1, cells := 0, slots := 0, locals := 21 } ad [.ref (x_h ad), .int v1] (fun σ post => wX_size (x_n ad) (x_lim ad) σ v1 post) := by
  refine x_ofi ⟨by decide, rfl, Nat.le_of_ble_eq_true rfl⟩ (fun {p e s m args below meth c σ A post ls} C Wd hf hl => ?_)
  replace hl : lv_has ls 2 [(0, .ref (x_h ad)), (1, .int v1)] := hl
  refine lv_aload_n C.1 C.2.1 dX0_size_0 rfl (lv_at hl 0 rfl) ?_
  refine lv_iload_n C.1 C.2.1 dX0_size_1 rfl (lv_at hl 1 rfl) ?_
  refine x_calliv (As := [.int v1]) (rest := []) C Wd (cX_isChunk l D ad v1) sX_isChunk (by decide) rfl hl.1 rfl (Nat.le_of_ble_eq_true rfl) (by decide) dX0_size_2 hf (fun r2 σ2 H locs hf Wd => ?_)
  refine lv_if_eq (tgt := 17) C.1 C.2.1 dX0_size_5 (by decide) (fun hc => ?_) (fun hc => ?_)
  · replace hf := hf.1 hc
    refine lv_iconst (v := (-1)) C.1 C.2.1 dX0_size_17 (by decide) ?_
    exact x_iret C Wd hf dX0_size_18
  · replace hf := hf.2 hc
    refine lv_aload_n C.1 C.2.1 dX0_size_8 rfl (lv_at hl 0 rfl) ?_
    refine x_get_z C Wd dX0_size_9 ?_
    refine lv_iload_n C.1 C.2.1 dX0_size_12 rfl (lv_at hl 1 rfl) ?_
    refine x_ald_z C Wd hf.1 dX0_size_13 ?_
    replace hf := hf.2
    refine lv_goto (tgt := 18) C.1 C.2.1 dX0_size_14 (by decide) ?_
    exact x_iret C Wd hf dX0_size_18
set_option maxHeartbeats 4000000 in
set_option maxRecDepth 100000 in
theorem cX_state (l : Launch) (D : va_G) (ad : XA) (v1 : Int32) : x_Mi l D yX0_state cX0_state 2 (some .int) { frames := 1, cells := 0, slots := 0, locals := 21 } ad [.ref (x_h ad), .int v1] (fun σ post => wX_state (x_n ad) (x_lim ad) σ v1 post) := by
  refine x_ofi ⟨by decide, rfl, Nat.le_of_ble_eq_true rfl⟩ (fun {p e s m args below meth c σ A post ls} C Wd hf hl => ?_)
  replace hl : lv_has ls 2 [(0, .ref (x_h ad)), (1, .int v1)] := hl
  refine lv_aload_n C.1 C.2.1 dX0_state_0 rfl (lv_at hl 0 rfl) ?_
  refine lv_iload_n C.1 C.2.1 dX0_state_1 rfl (lv_at hl 1 rfl) ?_
  refine x_calliv (As := [.int v1]) (rest := []) C Wd (cX_isChunk l D ad v1) sX_isChunk (by decide) rfl hl.1 rfl (Nat.le_of_ble_eq_true rfl) (by decide) dX0_state_2 hf (fun r2 σ2 H locs hf Wd => ?_)
  refine lv_if_eq (tgt := 17) C.1 C.2.1 dX0_state_5 (by decide) (fun hc => ?_) (fun hc => ?_)
  · replace hf := hf.1 hc
    refine lv_iconst (v := (-1)) C.1 C.2.1 dX0_state_17 (by decide) ?_
    exact x_iret C Wd hf dX0_state_18
  · replace hf := hf.2 hc
    refine lv_aload_n C.1 C.2.1 dX0_state_8 rfl (lv_at hl 0 rfl) ?_
    refine x_get_t C Wd dX0_state_9 ?_
    refine lv_iload_n C.1 C.2.1 dX0_state_12 rfl (lv_at hl 1 rfl) ?_
    refine x_ald_t C Wd hf.1 dX0_state_13 ?_
    replace hf := hf.2
    refine lv_goto (tgt := 18) C.1 C.2.1 dX0_state_14 (by decide) ?_
    exact x_iret C Wd hf dX0_state_18
