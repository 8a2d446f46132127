set_option maxHeartbeats 4000000 in
set_option maxRecDepth 100000 in
theorem cX_calloc (l : Launch) (D : va_G) (ad : XA) (v1 : Int32) : x_Mi l D yX0_calloc cX0_calloc 3 (some .int) { frames := 6, cells := 0, slots := 0, locals := 159 } ad [.ref (x_h ad), .int v1] (fun σ post => wX_calloc (x_n ad) (x_lim ad) σ v1 post) := by
  refine x_ofi ⟨by decide, rfl, Nat.le_of_ble_eq_true rfl⟩ (fun {p e s m args below meth c σ A post ls} C Wd hf hl => ?_)
  replace hl : lv_has ls 3 [(0, .ref (x_h ad)), (1, .int v1)] := hl
  refine lv_aload_n C.1 C.2.1 dX0_calloc_0 rfl (lv_at hl 0 rfl) ?_
  refine lv_iload_n C.1 C.2.1 dX0_calloc_1 rfl (lv_at hl 1 rfl) ?_
  refine x_calliv (As := [.int v1]) (rest := []) C Wd (cX_malloc l D ad v1) sX_malloc (by decide) rfl hl.1 rfl (Nat.le_of_ble_eq_true rfl) (by decide) dX0_calloc_2 hf (fun r2 σ2 H locs hf Wd => ?_)
  refine lv_istore_n (lv' := [(2, .int r2), (0, .ref (x_h ad)), (1, .int v1)]) C.1 C.2.1 dX0_calloc_5 rfl hl (by decide) rfl (fun ls hl => ?_)
  refine lv_aload_n C.1 C.2.1 dX0_calloc_6 rfl (lv_at hl 1 rfl) ?_
  refine lv_iload_n C.1 C.2.1 dX0_calloc_7 rfl (lv_at hl 0 rfl) ?_
  refine x_calliv (As := [.int r2]) (rest := []) C Wd (cX_isPointer l D ad r2) sX_isPointer (by decide) rfl hl.1 rfl (Nat.le_of_ble_eq_true rfl) (by decide) dX0_calloc_8 hf (fun r8 σ8 H locs hf Wd => ?_)
  refine lv_if_eq (tgt := 30) C.1 C.2.1 dX0_calloc_11 (by decide) (fun hc => ?_) (fun hc => ?_)
  · replace hf := hf.1 hc
    refine lv_iload_n C.1 C.2.1 dX0_calloc_30 rfl (lv_at hl 0 rfl) ?_
    exact x_iret C Wd hf dX0_calloc_31
  · replace hf := hf.2 hc
    refine lv_aload_n C.1 C.2.1 dX0_calloc_14 rfl (lv_at hl 1 rfl) ?_
    refine x_get_u C Wd dX0_calloc_15 ?_
    refine lv_iload_n C.1 C.2.1 dX0_calloc_18 rfl (lv_at hl 0 rfl) ?_
    refine lv_iload_n C.1 C.2.1 dX0_calloc_19 rfl (lv_at hl 0 rfl) ?_
    refine lv_aload_n C.1 C.2.1 dX0_calloc_20 rfl (lv_at hl 1 rfl) ?_
    refine lv_iload_n C.1 C.2.1 dX0_calloc_21 rfl (lv_at hl 0 rfl) ?_
    refine x_calliv (As := [.int r2]) (rest := [.int r2, .int r2, .ref (x_au ad)]) C Wd (cX_usable l D ad r2) sX_usable (by decide) rfl hl.1 rfl (Nat.le_of_ble_eq_true rfl) (by decide) dX0_calloc_22 hf (fun r22 σ22 H locs hf Wd => ?_)
    refine lv_iadd C.1 C.2.1 dX0_calloc_25 ?_
    refine lv_iconst (v := 0) C.1 C.2.1 dX0_calloc_26 (by decide) ?_
    refine x_fillr_u (rest := []) C Wd hf.1 hl.1 (Nat.le_of_ble_eq_true rfl) (by decide) dX0_calloc_27 (fun H locs Wd => ?_)
    replace hf := hf.2
    refine lv_iload_n C.1 C.2.1 dX0_calloc_30 rfl (lv_at hl 0 rfl) ?_
    exact x_iret C Wd hf dX0_calloc_31
set_option maxHeartbeats 4000000 in
set_option maxRecDepth 100000 in
theorem bX_chunkBefore_4_f {p : Program} {l : Launch} {e : Env} {s : State} {m : MethodId} {args : Array Value} {below : List Frame} {meth : Method} {c : Code} {D : va_G} {ad : XA} {A : Nat → Prop} (C : x_C p s m args meth c cX0_chunkBefore 3 (some .int)) {post : Int32 → XS → Prop} : ∀ (f : Nat) (σ : XS) (H : Heap) (locs : List Loc) (ls : Array Slot) (v2 : Int32), x_W D ad σ A s H locs → wX_chunkBefore_4 (x_n ad) (x_lim ad) post f σ v2 → lv_has ls 3 [(0, .ref (x_h ad)), (2, .int v2)] → W p l e { frames := 0, cells := 0, slots := 0, locals := 0 } s m args below meth c H locs 0 0 (x_Qi below D ad A args s post) (F0 m 4 ls []) := by
  intro f
  induction f with
  | zero => intro σ H locs ls v2 Wd hf hl; exact False.elim hf
  | succ f ih =>
    intro σ H locs ls v2 Wd hf hl
    replace hf : wX_chunkBefore_4_s (x_n ad) (x_lim ad) post (wX_chunkBefore_4 (x_n ad) (x_lim ad) post f) σ v2 := hf
    refine lv_iload_n C.1 C.2.1 dX0_chunkBefore_4 rfl (lv_at hl 1 rfl) ?_
    refine lv_if_lt (tgt := 26) C.1 C.2.1 dX0_chunkBefore_5 (by decide) (fun hc => ?_) (fun hc => ?_)
    · replace hf := hf.1 hc
      refine lv_iconst (v := (-1)) C.1 C.2.1 dX0_chunkBefore_26 (by decide) ?_
      exact x_iret C Wd hf dX0_chunkBefore_27
    · replace hf := hf.2 hc
      refine lv_aload_n C.1 C.2.1 dX0_chunkBefore_8 rfl (lv_at hl 0 rfl) ?_
      refine x_get_t C Wd dX0_chunkBefore_9 ?_
      refine lv_iload_n C.1 C.2.1 dX0_chunkBefore_12 rfl (lv_at hl 1 rfl) ?_
      refine x_ald_t C Wd hf.1 dX0_chunkBefore_13 ?_
      replace hf := hf.2
      refine lv_iconst (v := (-1)) C.1 C.2.1 dX0_chunkBefore_14 (by decide) ?_
      refine lv_icmp_eq (tgt := 20) C.1 C.2.1 dX0_chunkBefore_15 (by decide) (fun hc => ?_) (fun hc => ?_)
      · replace hf := hf.1 hc
        refine lv_iinc (v := v2 + (-1)) (lv' := [(2, .int (v2 + (-1))), (0, .ref (x_h ad))]) C.1 C.2.1 dX0_chunkBefore_20 hl (k := 1) rfl rfl (by decide) rfl (fun ls hl => ?_)
        refine lv_goto (tgt := 4) C.1 C.2.1 dX0_chunkBefore_23 (by decide) ?_
        exact ih _ _ _ _ _  Wd hf (lv_sub hl [1, 0] rfl)
      · replace hf := hf.2 hc
        refine lv_iload_n C.1 C.2.1 dX0_chunkBefore_18 rfl (lv_at hl 1 rfl) ?_
        exact x_iret C Wd hf dX0_chunkBefore_19
theorem bX_chunkBefore_4 {p : Program} {l : Launch} {e : Env} {s : State} {m : MethodId} {args : Array Value} {below : List Frame} {meth : Method} {c : Code} {D : va_G} {ad : XA} {A : Nat → Prop} (C : x_C p s m args meth c cX0_chunkBefore 3 (some .int)) {post : Int32 → XS → Prop} {σ : XS} {H : Heap} {locs : List Loc} {ls : Array Slot} {v2 : Int32} (Wd : x_W D ad σ A s H locs) (hf : ∃ f : Nat, wX_chunkBefore_4 (x_n ad) (x_lim ad) post f σ v2) (hl : lv_has ls 3 [(0, .ref (x_h ad)), (2, .int v2)]) : W p l e { frames := 0, cells := 0, slots := 0, locals := 0 } s m args below meth c H locs 0 0 (x_Qi below D ad A args s post) (F0 m 4 ls []) := by
  obtain ⟨f, hf⟩ := hf
  exact bX_chunkBefore_4_f C f σ H locs ls v2 Wd hf hl
set_option maxHeartbeats 4000000 in
set_option maxRecDepth 100000 in
theorem cX_chunkBefore (l : Launch) (D : va_G) (ad : XA) (v1 : Int32) : x_Mi l D yX0_chunkBefore cX0_chunkBefore 3 (some .int) { frames := 0, cells := 0, slots := 0, locals := 0 } ad [.ref (x_h ad), .int v1] (fun σ post => wX_chunkBefore (x_n ad) (x_lim ad) σ v1 post) := by
  refine x_ofi ⟨by decide, rfl, Nat.le_of_ble_eq_true rfl⟩ (fun {p e s m args below meth c σ A post ls} C Wd hf hl => ?_)
  replace hl : lv_has ls 3 [(0, .ref (x_h ad)), (1, .int v1)] := hl
  refine lv_iload_n C.1 C.2.1 dX0_chunkBefore_0 rfl (lv_at hl 1 rfl) ?_
  refine lv_iconst (v := 1) C.1 C.2.1 dX0_chunkBefore_1 (by decide) ?_
  refine lv_isub C.1 C.2.1 dX0_chunkBefore_2 ?_
  refine lv_istore_n (lv' := [(2, .int (v1 - 1)), (0, .ref (x_h ad)), (1, .int v1)]) C.1 C.2.1 dX0_chunkBefore_3 rfl hl (by decide) rfl (fun ls hl => ?_)
  exact bX_chunkBefore_4 C Wd hf (lv_sub hl [1, 0] rfl)
set_option maxHeartbeats 4000000 in
set_option maxRecDepth 100000 in
theorem cX_isFree (l : Launch) (D : va_G) (ad : XA) (v1 : Int32) : x_Mi l D yX0_isFree cX0_isFree 2 (some .boolean) { frames := 1, cells := 0, slots := 0, locals := 21 } ad [.ref (x_h ad), .int v1] (fun σ post => wX_isFree (x_n ad) (x_lim ad) σ v1 post) := by
  refine x_ofi ⟨by decide, rfl, Nat.le_of_ble_eq_true rfl⟩ (fun {p e s m args below meth c σ A post ls} C Wd hf hl => ?_)
  replace hl : lv_has ls 2 [(0, .ref (x_h ad)), (1, .int v1)] := hl
  refine lv_aload_n C.1 C.2.1 dX0_isFree_0 rfl (lv_at hl 0 rfl) ?_
  refine lv_iload_n C.1 C.2.1 dX0_isFree_1 rfl (lv_at hl 1 rfl) ?_
  refine x_calliv (As := [.int v1]) (rest := []) C Wd (cX_isChunk l D ad v1) sX_isChunk (by decide) rfl hl.1 rfl (Nat.le_of_ble_eq_true rfl) (by decide) dX0_isFree_2 hf (fun r2 σ2 H locs hf Wd => ?_)
  refine lv_if_eq (tgt := 21) C.1 C.2.1 dX0_isFree_5 (by decide) (fun hc => ?_) (fun hc => ?_)
  · replace hf := hf.1 hc
    refine lv_iconst (v := 0) C.1 C.2.1 dX0_isFree_21 (by decide) ?_
    exact x_zret C Wd (by decide) hf dX0_isFree_22
  · replace hf := hf.2 hc
    refine lv_aload_n C.1 C.2.1 dX0_isFree_8 rfl (lv_at hl 0 rfl) ?_
    refine x_get_t C Wd dX0_isFree_9 ?_
    refine lv_iload_n C.1 C.2.1 dX0_isFree_12 rfl (lv_at hl 1 rfl) ?_
    refine x_ald_t C Wd hf.1 dX0_isFree_13 ?_
    replace hf := hf.2
    refine lv_if_eq (tgt := 21) C.1 C.2.1 dX0_isFree_14 (by decide) (fun hc => ?_) (fun hc => ?_)
    · replace hf := hf.1 hc
      refine lv_iconst (v := 0) C.1 C.2.1 dX0_isFree_21 (by decide) ?_
      exact x_zret C Wd (by decide) hf dX0_isFree_22
    · replace hf := hf.2 hc
      refine lv_iconst (v := 1) C.1 C.2.1 dX0_isFree_17 (by decide) ?_
      refine lv_goto (tgt := 22) C.1 C.2.1 dX0_isFree_18 (by decide) ?_
      exact x_zret C Wd (by decide) hf dX0_isFree_22
set_option maxHeartbeats 4000000 in
set_option maxRecDepth 100000 in
theorem bX_release_95 {p : Program} {l : Launch} {e : Env} {s : State} {m : MethodId} {args : Array Value} {below : List Frame} {meth : Method} {c : Code} {D : va_G} {ad : XA} {A : Nat → Prop} (C : x_C p s m args meth c cX0_release 7 none) {post : XS → Prop} {σ : XS} {H : Heap} {locs : List Loc} {ls : Array Slot} {v4 : Int32} {v5 : Int32} {v6 : Int32} (Wd : x_W D ad σ A s H locs) (hf : wX_release_95 (x_n ad) (x_lim ad) σ v4 v5 v6 post) (hl : lv_has ls 7 [(0, .ref (x_h ad)), (4, .int v4), (5, .int v5), (6, .int v6)]) : W p l e { frames := 2, cells := 0, slots := 0, locals := 42 } s m args below meth c H locs 0 0 (x_Qv below D ad A args s post) (F0 m 95 ls []) := by
  refine lv_iload C.1 C.2.1 dX0_release_95 (lv_at hl 2 rfl) ?_
  refine lv_iload C.1 C.2.1 dX0_release_97 (lv_at hl 3 rfl) ?_
  refine lv_iadd C.1 C.2.1 dX0_release_99 ?_
  refine lv_aload_n C.1 C.2.1 dX0_release_100 rfl (lv_at hl 0 rfl) ?_
  refine x_get_en C Wd dX0_release_101 ?_
  refine lv_icmp_ne (tgt := 119) C.1 C.2.1 dX0_release_104 (by decide) (fun hc => ?_) (fun hc => ?_)
  · replace hf := hf.1 hc
    refine lv_aload_n C.1 C.2.1 dX0_release_119 rfl (lv_at hl 0 rfl) ?_
    refine lv_iload C.1 C.2.1 dX0_release_120 (lv_at hl 2 rfl) ?_
    refine lv_iload C.1 C.2.1 dX0_release_122 (lv_at hl 3 rfl) ?_
    refine lv_iload C.1 C.2.1 dX0_release_124 (lv_at hl 1 rfl) ?_
    refine lv_if_eq (tgt := 133) C.1 C.2.1 dX0_release_126 (by decide) (fun hc => ?_) (fun hc => ?_)
    · replace hf := hf.1 hc
      refine lv_iconst (v := 2) C.1 C.2.1 dX0_release_133 (by decide) ?_
      refine x_callvv (As := [.int v5, .int v6, .int 2]) (rest := []) C Wd (cX_lay l D ad v5 v6 2) sX_lay (by decide) rfl hl.1 rfl (Nat.le_of_ble_eq_true rfl) (by decide) dX0_release_134 hf (fun σ134 H locs hf Wd => ?_)
      exact x_vret C Wd hf dX0_release_137
    · replace hf := hf.2 hc
      refine lv_iconst (v := 3) C.1 C.2.1 dX0_release_129 (by decide) ?_
      refine lv_goto (tgt := 134) C.1 C.2.1 dX0_release_130 (by decide) ?_
      refine x_callvv (As := [.int v5, .int v6, .int 3]) (rest := []) C Wd (cX_lay l D ad v5 v6 3) sX_lay (by decide) rfl hl.1 rfl (Nat.le_of_ble_eq_true rfl) (by decide) dX0_release_134 hf (fun σ134 H locs hf Wd => ?_)
      exact x_vret C Wd hf dX0_release_137
  · replace hf := hf.2 hc
    refine lv_aload_n C.1 C.2.1 dX0_release_107 rfl (lv_at hl 0 rfl) ?_
    refine lv_iload C.1 C.2.1 dX0_release_108 (lv_at hl 2 rfl) ?_
    refine lv_iload C.1 C.2.1 dX0_release_110 (lv_at hl 3 rfl) ?_
    refine lv_iconst (v := 4) C.1 C.2.1 dX0_release_112 (by decide) ?_
    refine x_callvv (As := [.int v5, .int v6, .int 4]) (rest := []) C Wd (cX_lay l D ad v5 v6 4) sX_lay (by decide) rfl hl.1 rfl (Nat.le_of_ble_eq_true rfl) (by decide) dX0_release_113 hf (fun σ113 H locs hf Wd => ?_)
    refine lv_goto (tgt := 137) C.1 C.2.1 dX0_release_116 (by decide) ?_
    exact x_vret C Wd hf dX0_release_137
set_option maxHeartbeats 4000000 in
set_option maxRecDepth 100000 in
theorem bX_release_74 {p : Program} {l : Launch} {e : Env} {s : State} {m : MethodId} {args : Array Value} {below : List Frame} {meth : Method} {c : Code} {D : va_G} {ad : XA} {A : Nat → Prop} (C : x_C p s m args meth c cX0_release 7 none) {post : XS → Prop} {σ : XS} {H : Heap} {locs : List Loc} {ls : Array Slot} {v2 : Int32} {v4 : Int32} {v5 : Int32} {v6 : Int32} (Wd : x_W D ad σ A s H locs) (hf : wX_release_74 (x_n ad) (x_lim ad) σ v2 v4 v5 v6 post) (hl : lv_has ls 7 [(0, .ref (x_h ad)), (2, .int v2), (4, .int v4), (5, .int v5), (6, .int v6)]) : W p l e { frames := 2, cells := 0, slots := 0, locals := 42 } s m args below meth c H locs 0 0 (x_Qv below D ad A args s post) (F0 m 74 ls []) := by
  refine lv_aload_n C.1 C.2.1 dX0_release_74 rfl (lv_at hl 0 rfl) ?_
  refine lv_iload_n C.1 C.2.1 dX0_release_75 rfl (lv_at hl 1 rfl) ?_
  refine x_calliv (As := [.int v2]) (rest := []) C Wd (cX_isFree l D ad v2) sX_isFree (by decide) rfl hl.1 rfl (Nat.le_of_ble_eq_true rfl) (by decide) dX0_release_76 hf (fun r76 σ76 H locs hf Wd => ?_)
  refine lv_if_eq (tgt := 95) C.1 C.2.1 dX0_release_79 (by decide) (fun hc => ?_) (fun hc => ?_)
  · replace hf := hf.1 hc
    exact bX_release_95 C Wd hf (lv_sub hl [0, 2, 3, 4] rfl)
  · replace hf := hf.2 hc
    refine lv_iload C.1 C.2.1 dX0_release_82 (lv_at hl 4 rfl) ?_
    refine lv_aload_n C.1 C.2.1 dX0_release_84 rfl (lv_at hl 0 rfl) ?_
    refine lv_iload_n C.1 C.2.1 dX0_release_85 rfl (lv_at hl 1 rfl) ?_
    refine x_calliv (As := [.int v2]) (rest := [.int v6]) C Wd (cX_lift l D ad v2) sX_lift (by decide) rfl hl.1 rfl (Nat.le_of_ble_eq_true rfl) (by decide) dX0_release_86 hf (fun r86 σ86 H locs hf Wd => ?_)
    refine lv_iadd C.1 C.2.1 dX0_release_89 ?_
    refine lv_istore (lv' := [(6, .int (v6 + r86)), (0, .ref (x_h ad)), (2, .int v2), (4, .int v4), (5, .int v5)]) C.1 C.2.1 dX0_release_90 hl (by decide) rfl (fun ls hl => ?_)
    refine lv_iload_n C.1 C.2.1 dX0_release_92 rfl (lv_at hl 2 rfl) ?_
    refine lv_istore (lv' := [(5, .int v2), (6, .int (v6 + r86)), (0, .ref (x_h ad)), (2, .int v2), (4, .int v4)]) C.1 C.2.1 dX0_release_93 hl (by decide) rfl (fun ls hl => ?_)
    exact bX_release_95 C Wd hf (lv_sub hl [2, 4, 0, 1] rfl)
set_option maxHeartbeats 4000000 in
set_option maxRecDepth 100000 in
theorem bX_release_44 {p : Program} {l : Launch} {e : Env} {s : State} {m : MethodId} {args : Array Value} {below : List Frame} {meth : Method} {c : Code} {D : va_G} {ad : XA} {A : Nat → Prop} (C : x_C p s m args meth c cX0_release 7 none) {post : XS → Prop} {σ : XS} {H : Heap} {locs : List Loc} {ls : Array Slot} {v1 : Int32} {v2 : Int32} {v3 : Int32} {k0 : Int32} (Wd : x_W D ad σ A s H locs) (hf : wX_release_44 (x_n ad) (x_lim ad) σ v1 v2 v3 k0 post) (hl : lv_has ls 7 [(0, .ref (x_h ad)), (1, .int v1), (2, .int v2), (3, .int v3)]) : W p l e { frames := 2, cells := 0, slots := 0, locals := 42 } s m args below meth c H locs 0 0 (x_Qv below D ad A args s post) (F0 m 44 ls [.int k0]) := by
  refine lv_istore (lv' := [(4, .int k0), (0, .ref (x_h ad)), (1, .int v1), (2, .int v2), (3, .int v3)]) C.1 C.2.1 dX0_release_44 hl (by decide) rfl (fun ls hl => ?_)
  refine lv_iload_n C.1 C.2.1 dX0_release_46 rfl (lv_at hl 2 rfl) ?_
  refine lv_istore (lv' := [(5, .int v1), (4, .int k0), (0, .ref (x_h ad)), (1, .int v1), (2, .int v2), (3, .int v3)]) C.1 C.2.1 dX0_release_47 hl (by decide) rfl (fun ls hl => ?_)
  refine lv_aload_n C.1 C.2.1 dX0_release_49 rfl (lv_at hl 2 rfl) ?_
  refine lv_iload_n C.1 C.2.1 dX0_release_50 rfl (lv_at hl 3 rfl) ?_
  refine x_calliv (As := [.int v1]) (rest := []) C Wd (cX_lift l D ad v1) sX_lift (by decide) rfl hl.1 rfl (Nat.le_of_ble_eq_true rfl) (by decide) dX0_release_51 hf (fun r51 σ51 H locs hf Wd => ?_)
  refine lv_istore (lv' := [(6, .int r51), (5, .int v1), (4, .int k0), (0, .ref (x_h ad)), (1, .int v1), (2, .int v2), (3, .int v3)]) C.1 C.2.1 dX0_release_54 hl (by decide) rfl (fun ls hl => ?_)
  refine lv_aload_n C.1 C.2.1 dX0_release_56 rfl (lv_at hl 3 rfl) ?_
  refine lv_iload_n C.1 C.2.1 dX0_release_57 rfl (lv_at hl 6 rfl) ?_
  refine x_calliv (As := [.int v3]) (rest := []) C Wd (cX_isFree l D ad v3) sX_isFree (by decide) rfl hl.1 rfl (Nat.le_of_ble_eq_true rfl) (by decide) dX0_release_58 hf (fun r58 σ58 H locs hf Wd => ?_)
  refine lv_if_eq (tgt := 74) C.1 C.2.1 dX0_release_61 (by decide) (fun hc => ?_) (fun hc => ?_)
  · replace hf := hf.1 hc
    exact bX_release_74 C Wd hf (lv_sub hl [3, 5, 2, 1, 0] rfl)
  · replace hf := hf.2 hc
    refine lv_iload C.1 C.2.1 dX0_release_64 (lv_at hl 0 rfl) ?_
    refine lv_aload_n C.1 C.2.1 dX0_release_66 rfl (lv_at hl 3 rfl) ?_
    refine lv_iload_n C.1 C.2.1 dX0_release_67 rfl (lv_at hl 6 rfl) ?_
    refine x_calliv (As := [.int v3]) (rest := [.int r51]) C Wd (cX_lift l D ad v3) sX_lift (by decide) rfl hl.1 rfl (Nat.le_of_ble_eq_true rfl) (by decide) dX0_release_68 hf (fun r68 σ68 H locs hf Wd => ?_)
    refine lv_iadd C.1 C.2.1 dX0_release_71 ?_
    refine lv_istore (lv' := [(6, .int (r51 + r68)), (5, .int v1), (4, .int k0), (0, .ref (x_h ad)), (1, .int v1), (2, .int v2), (3, .int v3)]) C.1 C.2.1 dX0_release_72 hl (by decide) rfl (fun ls hl => ?_)
    exact bX_release_74 C Wd hf (lv_sub hl [3, 5, 2, 1, 0] rfl)
set_option maxHeartbeats 4000000 in
set_option maxRecDepth 100000 in
theorem cX_release (l : Launch) (D : va_G) (ad : XA) (v1 : Int32) : x_Mv l D yX0_release cX0_release 7 none { frames := 2, cells := 0, slots := 0, locals := 42 } ad [.ref (x_h ad), .int v1] (fun σ post => wX_release (x_n ad) (x_lim ad) σ v1 post) := by
  refine x_ofv ⟨by decide, rfl, Nat.le_of_ble_eq_true rfl⟩ (fun {p e s m args below meth c σ A post ls} C Wd hf hl => ?_)
  replace hl : lv_has ls 7 [(0, .ref (x_h ad)), (1, .int v1)] := hl
  refine lv_aload_n C.1 C.2.1 dX0_release_0 rfl (lv_at hl 0 rfl) ?_
  refine lv_iload_n C.1 C.2.1 dX0_release_1 rfl (lv_at hl 1 rfl) ?_
  refine x_calliv (As := [.int v1]) (rest := []) C Wd (cX_chunkBefore l D ad v1) sX_chunkBefore (by decide) rfl hl.1 rfl (Nat.le_of_ble_eq_true rfl) (by decide) dX0_release_2 hf (fun r2 σ2 H locs hf Wd => ?_)
  refine lv_istore_n (lv' := [(2, .int r2), (0, .ref (x_h ad)), (1, .int v1)]) C.1 C.2.1 dX0_release_5 rfl hl (by decide) rfl (fun ls hl => ?_)
  refine lv_iload_n C.1 C.2.1 dX0_release_6 rfl (lv_at hl 2 rfl) ?_
  refine lv_aload_n C.1 C.2.1 dX0_release_7 rfl (lv_at hl 1 rfl) ?_
  refine x_get_z C Wd dX0_release_8 ?_
  refine lv_iload_n C.1 C.2.1 dX0_release_11 rfl (lv_at hl 2 rfl) ?_
  refine x_ald_z C Wd hf.1 dX0_release_12 ?_
  replace hf := hf.2
  refine lv_iadd C.1 C.2.1 dX0_release_13 ?_
  refine lv_istore_n (lv' := [(3, .int (v1 + (x_z σ2 v1.toNatClampNeg))), (2, .int r2), (0, .ref (x_h ad)), (1, .int v1)]) C.1 C.2.1 dX0_release_14 rfl hl (by decide) rfl (fun ls hl => ?_)
  refine lv_aload_n C.1 C.2.1 dX0_release_15 rfl (lv_at hl 2 rfl) ?_
  refine x_get_vi C Wd dX0_release_16 ?_
  refine lv_iconst (v := (-1)) C.1 C.2.1 dX0_release_19 (by decide) ?_
  refine lv_icmp_eq (tgt := 43) C.1 C.2.1 dX0_release_20 (by decide) (fun hc => ?_) (fun hc => ?_)
  · replace hf := hf.1 hc
    refine lv_iconst (v := 0) C.1 C.2.1 dX0_release_43 (by decide) ?_
    exact bX_release_44 C Wd hf (lv_sub hl [2, 3, 1, 0] rfl)
  · replace hf := hf.2 hc
    refine lv_aload_n C.1 C.2.1 dX0_release_23 rfl (lv_at hl 2 rfl) ?_
    refine x_get_vi C Wd dX0_release_24 ?_
    refine lv_iload_n C.1 C.2.1 dX0_release_27 rfl (lv_at hl 1 rfl) ?_
    refine lv_icmp_eq (tgt := 39) C.1 C.2.1 dX0_release_28 (by decide) (fun hc => ?_) (fun hc => ?_)
    · replace hf := hf.1 hc
      refine lv_iconst (v := 1) C.1 C.2.1 dX0_release_39 (by decide) ?_
      refine lv_goto (tgt := 44) C.1 C.2.1 dX0_release_40 (by decide) ?_
      exact bX_release_44 C Wd hf (lv_sub hl [2, 3, 1, 0] rfl)
    · replace hf := hf.2 hc
      refine lv_aload_n C.1 C.2.1 dX0_release_31 rfl (lv_at hl 2 rfl) ?_
      refine x_get_vi C Wd dX0_release_32 ?_
      refine lv_iload_n C.1 C.2.1 dX0_release_35 rfl (lv_at hl 0 rfl) ?_
      refine lv_icmp_ne (tgt := 43) C.1 C.2.1 dX0_release_36 (by decide) (fun hc => ?_) (fun hc => ?_)
      · replace hf := hf.1 hc
        refine lv_iconst (v := 0) C.1 C.2.1 dX0_release_43 (by decide) ?_
        exact bX_release_44 C Wd hf (lv_sub hl [2, 3, 1, 0] rfl)
      · replace hf := hf.2 hc
        refine lv_iconst (v := 1) C.1 C.2.1 dX0_release_39 (by decide) ?_
        refine lv_goto (tgt := 44) C.1 C.2.1 dX0_release_40 (by decide) ?_
        exact bX_release_44 C Wd hf (lv_sub hl [2, 3, 1, 0] rfl)
set_option maxHeartbeats 4000000 in
set_option maxRecDepth 100000 in
theorem cX_free (l : Launch) (D : va_G) (ad : XA) (v1 : Int32) : x_Mi l D yX0_free cX0_free 2 (some .boolean) { frames := 3, cells := 0, slots := 0, locals := 68 } ad [.ref (x_h ad), .int v1] (fun σ post => wX_free (x_n ad) (x_lim ad) σ v1 post) := by
  refine x_ofi ⟨by decide, rfl, Nat.le_of_ble_eq_true rfl⟩ (fun {p e s m args below meth c σ A post ls} C Wd hf hl => ?_)
  replace hl : lv_has ls 2 [(0, .ref (x_h ad)), (1, .int v1)] := hl
  refine lv_aload_n C.1 C.2.1 dX0_free_0 rfl (lv_at hl 0 rfl) ?_
  refine lv_iload_n C.1 C.2.1 dX0_free_1 rfl (lv_at hl 1 rfl) ?_
  refine x_calliv (As := [.int v1]) (rest := []) C Wd (cX_isPointer l D ad v1) sX_isPointer (by decide) rfl hl.1 rfl (Nat.le_of_ble_eq_true rfl) (by decide) dX0_free_2 hf (fun r2 σ2 H locs hf Wd => ?_)
  refine lv_if_ne (tgt := 10) C.1 C.2.1 dX0_free_5 (by decide) (fun hc => ?_) (fun hc => ?_)
  · replace hf := hf.1 hc
    refine lv_aload_n C.1 C.2.1 dX0_free_10 rfl (lv_at hl 0 rfl) ?_
    refine lv_iload_n C.1 C.2.1 dX0_free_11 rfl (lv_at hl 1 rfl) ?_
    refine lv_iconst (v := 1) C.1 C.2.1 dX0_free_12 (by decide) ?_
    refine lv_isub C.1 C.2.1 dX0_free_13 ?_
    refine x_callvv (As := [.int (v1 - 1)]) (rest := []) C Wd (cX_release l D ad (v1 - 1)) sX_release (by decide) rfl hl.1 rfl (Nat.le_of_ble_eq_true rfl) (by decide) dX0_free_14 hf (fun σ14 H locs hf Wd => ?_)
    refine lv_iconst (v := 1) C.1 C.2.1 dX0_free_17 (by decide) ?_
    exact x_zret C Wd (by decide) hf dX0_free_18
  · replace hf := hf.2 hc
    refine lv_iconst (v := 0) C.1 C.2.1 dX0_free_8 (by decide) ?_
    exact x_zret C Wd (by decide) hf dX0_free_9
set_option maxHeartbeats 4000000 in
set_option maxRecDepth 100000 in
theorem cX_shorten (l : Launch) (D : va_G) (ad : XA) (v1 : Int32) (v2 : Int32) : x_Mv l D yX0_shorten cX0_shorten 3 none { frames := 3, cells := 0, slots := 0, locals := 68 } ad [.ref (x_h ad), .int v1, .int v2] (fun σ post => wX_shorten (x_n ad) (x_lim ad) σ v1 v2 post) := by
  refine x_ofv ⟨by decide, rfl, Nat.le_of_ble_eq_true rfl⟩ (fun {p e s m args below meth c σ A post ls} C Wd hf hl => ?_)
  replace hl : lv_has ls 3 [(0, .ref (x_h ad)), (1, .int v1), (2, .int v2)] := hl
  refine lv_aload_n C.1 C.2.1 dX0_shorten_0 rfl (lv_at hl 0 rfl) ?_
  refine x_get_z C Wd dX0_shorten_1 ?_
  refine lv_iload_n C.1 C.2.1 dX0_shorten_4 rfl (lv_at hl 1 rfl) ?_
  refine x_ald_z C Wd hf.1 dX0_shorten_5 ?_
  replace hf := hf.2
  refine lv_iload_n C.1 C.2.1 dX0_shorten_6 rfl (lv_at hl 2 rfl) ?_
  refine lv_isub C.1 C.2.1 dX0_shorten_7 ?_
  refine lv_iconst (v := 2) C.1 C.2.1 dX0_shorten_8 (by decide) ?_
  refine lv_icmp_lt (tgt := 27) C.1 C.2.1 dX0_shorten_9 (by decide) (fun hc => ?_) (fun hc => ?_)
  · replace hf := hf.1 hc
    exact x_vret C Wd hf dX0_shorten_27
  · replace hf := hf.2 hc
    refine lv_aload_n C.1 C.2.1 dX0_shorten_12 rfl (lv_at hl 0 rfl) ?_
    refine lv_iload_n C.1 C.2.1 dX0_shorten_13 rfl (lv_at hl 1 rfl) ?_
    refine lv_iload_n C.1 C.2.1 dX0_shorten_14 rfl (lv_at hl 2 rfl) ?_
    refine lv_iconst (v := 0) C.1 C.2.1 dX0_shorten_15 (by decide) ?_
    refine x_calliv (As := [.int v1, .int v2, .int 0]) (rest := []) C Wd (cX_cut l D ad v1 v2 0) sX_cut (by decide) rfl hl.1 rfl (Nat.le_of_ble_eq_true rfl) (by decide) dX0_shorten_16 hf (fun r16 σ16 H locs hf Wd => ?_)
    refine lv_pop C.1 C.2.1 dX0_shorten_19 rfl ?_
    refine lv_aload_n C.1 C.2.1 dX0_shorten_20 rfl (lv_at hl 0 rfl) ?_
    refine lv_iload_n C.1 C.2.1 dX0_shorten_21 rfl (lv_at hl 1 rfl) ?_
    refine lv_iload_n C.1 C.2.1 dX0_shorten_22 rfl (lv_at hl 2 rfl) ?_
    refine lv_iadd C.1 C.2.1 dX0_shorten_23 ?_
    refine x_callvv (As := [.int (v1 + v2)]) (rest := []) C Wd (cX_release l D ad (v1 + v2)) sX_release (by decide) rfl hl.1 rfl (Nat.le_of_ble_eq_true rfl) (by decide) dX0_shorten_24 hf (fun σ24 H locs hf Wd => ?_)
    exact x_vret C Wd hf dX0_shorten_27
set_option maxHeartbeats 4000000 in
set_option maxRecDepth 100000 in
theorem bX_lengthen_64 {p : Program} {l : Launch} {e : Env} {s : State} {m : MethodId} {args : Array Value} {below : List Frame} {meth : Method} {c : Code} {D : va_G} {ad : XA} {A : Nat → Prop} (C : x_C p s m args meth c cX0_lengthen 6 (some .boolean)) {post : Int32 → XS → Prop} {σ : XS} {H : Heap} {locs : List Loc} {ls : Array Slot} {v1 : Int32} {v2 : Int32} {v3 : Int32} {v4 : Int32} (Wd : x_W D ad σ A s H locs) (hf : wX_lengthen_64 (x_n ad) (x_lim ad) σ v1 v2 v3 v4 post) (hl : lv_has ls 6 [(0, .ref (x_h ad)), (1, .int v1), (2, .int v2), (3, .int v3), (4, .int v4)]) : W p l e { frames := 3, cells := 0, slots := 0, locals := 94 } s m args below meth c H locs 0 0 (x_Qi below D ad A args s post) (F0 m 64 ls []) := by
  refine lv_aload_n C.1 C.2.1 dX0_lengthen_64 rfl (lv_at hl 0 rfl) ?_
  refine lv_iload_n C.1 C.2.1 dX0_lengthen_65 rfl (lv_at hl 3 rfl) ?_
  refine x_calliv (As := [.int v3]) (rest := []) C Wd (cX_isFree l D ad v3) sX_isFree (by decide) rfl hl.1 rfl (Nat.le_of_ble_eq_true rfl) (by decide) dX0_lengthen_66 hf (fun r66 σ66 H locs hf Wd => ?_)
  refine lv_if_eq (tgt := 83) C.1 C.2.1 dX0_lengthen_69 (by decide) (fun hc => ?_) (fun hc => ?_)
  · replace hf := hf.1 hc
    refine lv_iconst (v := 0) C.1 C.2.1 dX0_lengthen_83 (by decide) ?_
    exact x_zret C Wd (by decide) hf dX0_lengthen_84
  · replace hf := hf.2 hc
    refine lv_aload_n C.1 C.2.1 dX0_lengthen_72 rfl (lv_at hl 0 rfl) ?_
    refine x_get_z C Wd dX0_lengthen_73 ?_
    refine lv_iload_n C.1 C.2.1 dX0_lengthen_76 rfl (lv_at hl 3 rfl) ?_
    refine x_ald_z C Wd hf.1 dX0_lengthen_77 ?_
    replace hf := hf.2
    refine lv_iload C.1 C.2.1 dX0_lengthen_78 (lv_at hl 4 rfl) ?_
    refine lv_icmp_ge (tgt := 85) C.1 C.2.1 dX0_lengthen_80 (by decide) (fun hc => ?_) (fun hc => ?_)
    · replace hf := hf.1 hc
      refine lv_aload_n C.1 C.2.1 dX0_lengthen_85 rfl (lv_at hl 0 rfl) ?_
      refine x_get_t C Wd dX0_lengthen_86 ?_
      refine lv_iload_n C.1 C.2.1 dX0_lengthen_89 rfl (lv_at hl 3 rfl) ?_
      refine x_ald_t C Wd hf.1 dX0_lengthen_90 ?_
      replace hf := hf.2
      refine lv_istore (lv' := [(5, .int (x_t σ66 v3.toNatClampNeg)), (0, .ref (x_h ad)), (1, .int v1), (2, .int v2), (3, .int v3), (4, .int v4)]) C.1 C.2.1 dX0_lengthen_91 hl (by decide) rfl (fun ls hl => ?_)
      refine lv_aload_n C.1 C.2.1 dX0_lengthen_93 rfl (lv_at hl 1 rfl) ?_
      refine x_get_z C Wd dX0_lengthen_94 ?_
      refine lv_iload_n C.1 C.2.1 dX0_lengthen_97 rfl (lv_at hl 2 rfl) ?_
      refine lv_dup2_11 C.1 C.2.1 dX0_lengthen_98 rfl rfl ?_
      refine x_ald_z C Wd hf.1 dX0_lengthen_99 ?_
      replace hf := hf.2
      refine lv_aload_n C.1 C.2.1 dX0_lengthen_100 rfl (lv_at hl 1 rfl) ?_
      refine lv_iload_n C.1 C.2.1 dX0_lengthen_101 rfl (lv_at hl 4 rfl) ?_
      refine x_calliv (As := [.int v3]) (rest := [.int (x_z σ66 v1.toNatClampNeg), .int v1, .ref (x_az ad)]) C Wd (cX_lift l D ad v3) sX_lift (by decide) rfl hl.1 rfl (Nat.le_of_ble_eq_true rfl) (by decide) dX0_lengthen_102 hf (fun r102 σ102 H locs hf Wd => ?_)
      refine lv_iadd C.1 C.2.1 dX0_lengthen_105 ?_
      refine x_ast_z C Wd hf.1 dX0_lengthen_106 (fun H locs Wd => ?_)
      replace hf := hf.2
      refine lv_aload_n C.1 C.2.1 dX0_lengthen_107 rfl (lv_at hl 1 rfl) ?_
      refine lv_iload_n C.1 C.2.1 dX0_lengthen_108 rfl (lv_at hl 2 rfl) ?_
      refine lv_iload_n C.1 C.2.1 dX0_lengthen_109 rfl (lv_at hl 3 rfl) ?_
      refine lv_iload C.1 C.2.1 dX0_lengthen_110 (lv_at hl 0 rfl) ?_
      refine x_calliv (As := [.int v1, .int v2, .int (x_t σ66 v3.toNatClampNeg)]) (rest := []) C Wd (cX_cut l D ad v1 v2 (x_t σ66 v3.toNatClampNeg)) sX_cut (by decide) rfl hl.1 rfl (Nat.le_of_ble_eq_true rfl) (by decide) dX0_lengthen_112 hf (fun r112 σ112 H locs hf Wd => ?_)
      refine lv_pop C.1 C.2.1 dX0_lengthen_115 rfl ?_
      refine lv_iconst (v := 1) C.1 C.2.1 dX0_lengthen_116 (by decide) ?_
      exact x_zret C Wd (by decide) hf dX0_lengthen_117
    · replace hf := hf.2 hc
      refine lv_iconst (v := 0) C.1 C.2.1 dX0_lengthen_83 (by decide) ?_
      exact x_zret C Wd (by decide) hf dX0_lengthen_84
set_option maxHeartbeats 4000000 in
set_option maxRecDepth 100000 in
theorem bX_lengthen_35 {p : Program} {l : Launch} {e : Env} {s : State} {m : MethodId} {args : Array Value} {below : List Frame} {meth : Method} {c : Code} {D : va_G} {ad : XA} {A : Nat → Prop} (C : x_C p s m args meth c cX0_lengthen 6 (some .boolean)) {post : Int32 → XS → Prop} {σ : XS} {H : Heap} {locs : List Loc} {ls : Array Slot} {v1 : Int32} {v2 : Int32} {v3 : Int32} {v4 : Int32} (Wd : x_W D ad σ A s H locs) (hf : wX_lengthen_35 (x_n ad) (x_lim ad) σ v1 v2 v3 v4 post) (hl : lv_has ls 6 [(0, .ref (x_h ad)), (1, .int v1), (2, .int v2), (3, .int v3), (4, .int v4)]) : W p l e { frames := 3, cells := 0, slots := 0, locals := 94 } s m args below meth c H locs 0 0 (x_Qi below D ad A args s post) (F0 m 35 ls []) := by
  refine lv_iload C.1 C.2.1 dX0_lengthen_35 (lv_at hl 4 rfl) ?_
  refine lv_aload_n C.1 C.2.1 dX0_lengthen_37 rfl (lv_at hl 0 rfl) ?_
  refine lv_aload_n C.1 C.2.1 dX0_lengthen_38 rfl (lv_at hl 0 rfl) ?_
  refine x_get_tp C Wd dX0_lengthen_39 ?_
  refine x_calliv (As := [.int (x_tp σ)]) (rest := [.int v4]) C Wd (cX_sizeAt l D ad (x_tp σ)) sX_sizeAt (by decide) rfl hl.1 rfl (Nat.le_of_ble_eq_true rfl) (by decide) dX0_lengthen_42 hf (fun r42 σ42 H locs hf Wd => ?_)
  refine lv_isub C.1 C.2.1 dX0_lengthen_45 ?_
  refine lv_istore (lv' := [(5, .int (v4 - r42)), (0, .ref (x_h ad)), (1, .int v1), (2, .int v2), (3, .int v3), (4, .int v4)]) C.1 C.2.1 dX0_lengthen_46 hl (by decide) rfl (fun ls hl => ?_)
  refine lv_iload C.1 C.2.1 dX0_lengthen_48 (lv_at hl 0 rfl) ?_
  refine lv_if_le (tgt := 64) C.1 C.2.1 dX0_lengthen_50 (by decide) (fun hc => ?_) (fun hc => ?_)
  · replace hf := hf.1 hc
    exact bX_lengthen_64 C Wd hf (lv_sub hl [1, 2, 3, 4, 5] rfl)
  · replace hf := hf.2 hc
    refine lv_aload_n C.1 C.2.1 dX0_lengthen_53 rfl (lv_at hl 1 rfl) ?_
    refine lv_iload C.1 C.2.1 dX0_lengthen_54 (lv_at hl 0 rfl) ?_
    refine x_calliv (As := [.int (v4 - r42)]) (rest := []) C Wd (cX_grow l D ad (v4 - r42)) sX_grow (by decide) rfl hl.1 rfl (Nat.le_of_ble_eq_true rfl) (by decide) dX0_lengthen_56 hf (fun r56 σ56 H locs hf Wd => ?_)
    refine lv_if_ne (tgt := 64) C.1 C.2.1 dX0_lengthen_59 (by decide) (fun hc => ?_) (fun hc => ?_)
    · replace hf := hf.1 hc
      exact bX_lengthen_64 C Wd hf (lv_sub hl [1, 2, 3, 4, 5] rfl)
    · replace hf := hf.2 hc
      refine lv_iconst (v := 0) C.1 C.2.1 dX0_lengthen_62 (by decide) ?_
      exact x_zret C Wd (by decide) hf dX0_lengthen_63
set_option maxHeartbeats 4000000 in
set_option maxRecDepth 100000 in
theorem cX_lengthen (l : Launch) (D : va_G) (ad : XA) (v1 : Int32) (v2 : Int32) : x_Mi l D yX0_lengthen cX0_lengthen 6 (some .boolean) { frames := 3, cells := 0, slots := 0, locals := 94 } ad [.ref (x_h ad), .int v1, .int v2] (fun σ post => wX_lengthen (x_n ad) (x_lim ad) σ v1 v2 post) := by
  refine x_ofi ⟨by decide, rfl, Nat.le_of_ble_eq_true rfl⟩ (fun {p e s m args below meth c σ A post ls} C Wd hf hl => ?_)
  replace hl : lv_has ls 6 [(0, .ref (x_h ad)), (1, .int v1), (2, .int v2)] := hl
  refine lv_iload_n C.1 C.2.1 dX0_lengthen_0 rfl (lv_at hl 1 rfl) ?_
  refine lv_aload_n C.1 C.2.1 dX0_lengthen_1 rfl (lv_at hl 0 rfl) ?_
  refine x_get_z C Wd dX0_lengthen_2 ?_
  refine lv_iload_n C.1 C.2.1 dX0_lengthen_5 rfl (lv_at hl 1 rfl) ?_
  refine x_ald_z C Wd hf.1 dX0_lengthen_6 ?_
  replace hf := hf.2
  refine lv_iadd C.1 C.2.1 dX0_lengthen_7 ?_
  refine lv_istore_n (lv' := [(3, .int (v1 + (x_z σ v1.toNatClampNeg))), (0, .ref (x_h ad)), (1, .int v1), (2, .int v2)]) C.1 C.2.1 dX0_lengthen_8 rfl hl (by decide) rfl (fun ls hl => ?_)
  refine lv_iload_n C.1 C.2.1 dX0_lengthen_9 rfl (lv_at hl 3 rfl) ?_
  refine lv_aload_n C.1 C.2.1 dX0_lengthen_10 rfl (lv_at hl 1 rfl) ?_
  refine x_get_z C Wd dX0_lengthen_11 ?_
  refine lv_iload_n C.1 C.2.1 dX0_lengthen_14 rfl (lv_at hl 2 rfl) ?_
  refine x_ald_z C Wd hf.1 dX0_lengthen_15 ?_
  replace hf := hf.2
  refine lv_isub C.1 C.2.1 dX0_lengthen_16 ?_
  refine lv_istore (lv' := [(4, .int (v2 - (x_z σ v1.toNatClampNeg))), (3, .int (v1 + (x_z σ v1.toNatClampNeg))), (0, .ref (x_h ad)), (1, .int v1), (2, .int v2)]) C.1 C.2.1 dX0_lengthen_17 hl (by decide) rfl (fun ls hl => ?_)
  refine lv_iload_n C.1 C.2.1 dX0_lengthen_19 rfl (lv_at hl 1 rfl) ?_
  refine lv_aload_n C.1 C.2.1 dX0_lengthen_20 rfl (lv_at hl 2 rfl) ?_
  refine x_get_en C Wd dX0_lengthen_21 ?_
  refine lv_icmp_eq (tgt := 35) C.1 C.2.1 dX0_lengthen_24 (by decide) (fun hc => ?_) (fun hc => ?_)
  · replace hf := hf.1 hc
    exact bX_lengthen_35 C Wd hf (lv_sub hl [2, 3, 4, 1, 0] rfl)
  · replace hf := hf.2 hc
    refine lv_iload_n C.1 C.2.1 dX0_lengthen_27 rfl (lv_at hl 1 rfl) ?_
    refine lv_aload_n C.1 C.2.1 dX0_lengthen_28 rfl (lv_at hl 2 rfl) ?_
    refine x_get_tp C Wd dX0_lengthen_29 ?_
    refine lv_icmp_ne (tgt := 64) C.1 C.2.1 dX0_lengthen_32 (by decide) (fun hc => ?_) (fun hc => ?_)
    · replace hf := hf.1 hc
      exact bX_lengthen_64 C Wd hf (lv_sub hl [2, 3, 4, 1, 0] rfl)
    · replace hf := hf.2 hc
      exact bX_lengthen_35 C Wd hf (lv_sub hl [2, 3, 4, 1, 0] rfl)
set_option maxHeartbeats 4000000 in
set_option maxRecDepth 100000 in
theorem cX_move (l : Launch) (D : va_G) (ad : XA) (v1 : Int32) (v2 : Int32) : x_Mi l D yX0_move cX0_move 4 (some .int) { frames := 5, cells := 0, slots := 0, locals := 138 } ad [.ref (x_h ad), .int v1, .int v2] (fun σ post => wX_move (x_n ad) (x_lim ad) σ v1 v2 post) := by
  refine x_ofi ⟨by decide, rfl, Nat.le_of_ble_eq_true rfl⟩ (fun {p e s m args below meth c σ A post ls} C Wd hf hl => ?_)
  replace hl : lv_has ls 4 [(0, .ref (x_h ad)), (1, .int v1), (2, .int v2)] := hl
  refine lv_aload_n C.1 C.2.1 dX0_move_0 rfl (lv_at hl 0 rfl) ?_
  refine lv_iload_n C.1 C.2.1 dX0_move_1 rfl (lv_at hl 2 rfl) ?_
  refine x_calliv (As := [.int v2]) (rest := []) C Wd (cX_take l D ad v2) sX_take (by decide) rfl hl.1 rfl (Nat.le_of_ble_eq_true rfl) (by decide) dX0_move_2 hf (fun r2 σ2 H locs hf Wd => ?_)
  refine lv_istore_n (lv' := [(3, .int r2), (0, .ref (x_h ad)), (1, .int v1), (2, .int v2)]) C.1 C.2.1 dX0_move_5 rfl hl (by decide) rfl (fun ls hl => ?_)
  refine lv_iload_n C.1 C.2.1 dX0_move_6 rfl (lv_at hl 0 rfl) ?_
  refine lv_iconst (v := (-1)) C.1 C.2.1 dX0_move_7 (by decide) ?_
  refine lv_icmp_eq (tgt := 41) C.1 C.2.1 dX0_move_8 (by decide) (fun hc => ?_) (fun hc => ?_)
  · replace hf := hf.1 hc
    refine lv_iload_n C.1 C.2.1 dX0_move_41 rfl (lv_at hl 0 rfl) ?_
    exact x_iret C Wd hf dX0_move_42
  · replace hf := hf.2 hc
    refine lv_aload_n C.1 C.2.1 dX0_move_11 rfl (lv_at hl 1 rfl) ?_
    refine x_get_u C Wd dX0_move_12 ?_
    refine lv_iload_n C.1 C.2.1 dX0_move_15 rfl (lv_at hl 2 rfl) ?_
    refine lv_iconst (v := 1) C.1 C.2.1 dX0_move_16 (by decide) ?_
    refine lv_iadd C.1 C.2.1 dX0_move_17 ?_
    refine lv_aload_n C.1 C.2.1 dX0_move_18 rfl (lv_at hl 1 rfl) ?_
    refine x_get_u C Wd dX0_move_19 ?_
    refine lv_iload_n C.1 C.2.1 dX0_move_22 rfl (lv_at hl 0 rfl) ?_
    refine lv_iconst (v := 1) C.1 C.2.1 dX0_move_23 (by decide) ?_
    refine lv_iadd C.1 C.2.1 dX0_move_24 ?_
    refine lv_aload_n C.1 C.2.1 dX0_move_25 rfl (lv_at hl 1 rfl) ?_
    refine x_get_z C Wd dX0_move_26 ?_
    refine lv_iload_n C.1 C.2.1 dX0_move_29 rfl (lv_at hl 2 rfl) ?_
    refine x_ald_z C Wd hf.1 dX0_move_30 ?_
    replace hf := hf.2
    refine lv_iconst (v := 1) C.1 C.2.1 dX0_move_31 (by decide) ?_
    refine lv_isub C.1 C.2.1 dX0_move_32 ?_
    refine x_copy_u C Wd hf.1 hl.1 (by decide) (by decide) dX0_move_33 (fun H locs Wd => ?_)
    replace hf := hf.2
    refine lv_aload_n C.1 C.2.1 dX0_move_36 rfl (lv_at hl 1 rfl) ?_
    refine lv_iload_n C.1 C.2.1 dX0_move_37 rfl (lv_at hl 2 rfl) ?_
    refine x_callvv (As := [.int v1]) (rest := []) C Wd (cX_release l D ad v1) sX_release (by decide) rfl hl.1 rfl (Nat.le_of_ble_eq_true rfl) (by decide) dX0_move_38 hf (fun σ38 H locs hf Wd => ?_)
    refine lv_iload_n C.1 C.2.1 dX0_move_41 rfl (lv_at hl 0 rfl) ?_
    exact x_iret C Wd hf dX0_move_42
