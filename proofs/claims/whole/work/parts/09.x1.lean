set_option maxHeartbeats 4000000 in
set_option maxRecDepth 100000 in
theorem cX_unitsFor (l : Launch) (D : va_G) (ad : XA) (v0 : Int32) : x_Mi l D yX0_unitsFor cX0_unitsFor 1 (some .int) { frames := 1, cells := 0, slots := 0, locals := 30 } ad [.int v0] (fun σ post => wX_unitsFor (x_n ad) (x_lim ad) σ v0 post) := by
  refine x_ofi ⟨by decide, rfl, Nat.le_of_ble_eq_true rfl⟩ (fun {p e s m args below meth c σ A post ls} C Wd hf hl => ?_)
  replace hl : lv_has ls 1 [(0, .int v0)] := hl
  refine lv_iload_n C.1 C.2.1 dX0_unitsFor_0 rfl (lv_at hl 0 rfl) ?_
  refine lv_iconst (v := 1) C.1 C.2.1 dX0_unitsFor_1 (by decide) ?_
  refine x_mmax C hl.1 (Nat.le_of_ble_eq_true rfl) (Nat.le_of_ble_eq_true rfl) (by decide) dX0_unitsFor_2 ?_
  refine lv_iconst (v := 1) C.1 C.2.1 dX0_unitsFor_5 (by decide) ?_
  refine lv_iadd C.1 C.2.1 dX0_unitsFor_6 ?_
  exact x_iret C Wd hf dX0_unitsFor_7
set_option maxHeartbeats 4000000 in
set_option maxRecDepth 100000 in
theorem cX_isStored (l : Launch) (D : va_G) (ad : XA) (v1 : Int32) : x_Mi l D yX0_isStored cX0_isStored 2 (some .boolean) { frames := 0, cells := 0, slots := 0, locals := 0 } ad [.ref (x_h ad), .int v1] (fun σ post => wX_isStored (x_n ad) (x_lim ad) σ v1 post) := by
  refine x_ofi ⟨by decide, rfl, Nat.le_of_ble_eq_true rfl⟩ (fun {p e s m args below meth c σ A post ls} C Wd hf hl => ?_)
  replace hl : lv_has ls 2 [(0, .ref (x_h ad)), (1, .int v1)] := hl
  refine lv_aload_n C.1 C.2.1 dX0_isStored_0 rfl (lv_at hl 0 rfl) ?_
  refine x_get_t C Wd dX0_isStored_1 ?_
  refine lv_iload_n C.1 C.2.1 dX0_isStored_4 rfl (lv_at hl 1 rfl) ?_
  refine x_ald_t C Wd hf.1 dX0_isStored_5 ?_
  replace hf := hf.2
  refine lv_iconst (v := 1) C.1 C.2.1 dX0_isStored_6 (by decide) ?_
  refine lv_icmp_eq (tgt := 20) C.1 C.2.1 dX0_isStored_7 (by decide) (fun hc => ?_) (fun hc => ?_)
  · replace hf := hf.1 hc
    refine lv_iconst (v := 1) C.1 C.2.1 dX0_isStored_20 (by decide) ?_
    refine lv_goto (tgt := 25) C.1 C.2.1 dX0_isStored_21 (by decide) ?_
    exact x_zret C Wd (by decide) hf dX0_isStored_25
  · replace hf := hf.2 hc
    refine lv_aload_n C.1 C.2.1 dX0_isStored_10 rfl (lv_at hl 0 rfl) ?_
    refine x_get_t C Wd dX0_isStored_11 ?_
    refine lv_iload_n C.1 C.2.1 dX0_isStored_14 rfl (lv_at hl 1 rfl) ?_
    refine x_ald_t C Wd hf.1 dX0_isStored_15 ?_
    replace hf := hf.2
    refine lv_iconst (v := 2) C.1 C.2.1 dX0_isStored_16 (by decide) ?_
    refine lv_icmp_ne (tgt := 24) C.1 C.2.1 dX0_isStored_17 (by decide) (fun hc => ?_) (fun hc => ?_)
    · replace hf := hf.1 hc
      refine lv_iconst (v := 0) C.1 C.2.1 dX0_isStored_24 (by decide) ?_
      exact x_zret C Wd (by decide) hf dX0_isStored_25
    · replace hf := hf.2 hc
      refine lv_iconst (v := 1) C.1 C.2.1 dX0_isStored_20 (by decide) ?_
      refine lv_goto (tgt := 25) C.1 C.2.1 dX0_isStored_21 (by decide) ?_
      exact x_zret C Wd (by decide) hf dX0_isStored_25
set_option maxHeartbeats 4000000 in
set_option maxRecDepth 100000 in
theorem cX_isBetter (l : Launch) (D : va_G) (ad : XA) (v1 : Int32) (v2 : Int32) : x_Mi l D yX0_isBetter cX0_isBetter 3 (some .boolean) { frames := 0, cells := 0, slots := 0, locals := 0 } ad [.ref (x_h ad), .int v1, .int v2] (fun σ post => wX_isBetter (x_n ad) (x_lim ad) σ v1 v2 post) := by
  refine x_ofi ⟨by decide, rfl, Nat.le_of_ble_eq_true rfl⟩ (fun {p e s m args below meth c σ A post ls} C Wd hf hl => ?_)
  replace hl : lv_has ls 3 [(0, .ref (x_h ad)), (1, .int v1), (2, .int v2)] := hl
  refine lv_aload_n C.1 C.2.1 dX0_isBetter_0 rfl (lv_at hl 0 rfl) ?_
  refine x_get_z C Wd dX0_isBetter_1 ?_
  refine lv_iload_n C.1 C.2.1 dX0_isBetter_4 rfl (lv_at hl 1 rfl) ?_
  refine x_ald_z C Wd hf.1 dX0_isBetter_5 ?_
  replace hf := hf.2
  refine lv_aload_n C.1 C.2.1 dX0_isBetter_6 rfl (lv_at hl 0 rfl) ?_
  refine x_get_z C Wd dX0_isBetter_7 ?_
  refine lv_iload_n C.1 C.2.1 dX0_isBetter_10 rfl (lv_at hl 2 rfl) ?_
  refine x_ald_z C Wd hf.1 dX0_isBetter_11 ?_
  replace hf := hf.2
  refine lv_icmp_eq (tgt := 36) C.1 C.2.1 dX0_isBetter_12 (by decide) (fun hc => ?_) (fun hc => ?_)
  · replace hf := hf.1 hc
    refine lv_aload_n C.1 C.2.1 dX0_isBetter_36 rfl (lv_at hl 0 rfl) ?_
    refine x_get_r C Wd dX0_isBetter_37 ?_
    refine lv_iload_n C.1 C.2.1 dX0_isBetter_40 rfl (lv_at hl 1 rfl) ?_
    refine x_ald_r C Wd hf.1 dX0_isBetter_41 ?_
    replace hf := hf.2
    refine lv_aload_n C.1 C.2.1 dX0_isBetter_42 rfl (lv_at hl 0 rfl) ?_
    refine x_get_r C Wd dX0_isBetter_43 ?_
    refine lv_iload_n C.1 C.2.1 dX0_isBetter_46 rfl (lv_at hl 2 rfl) ?_
    refine x_ald_r C Wd hf.1 dX0_isBetter_47 ?_
    replace hf := hf.2
    refine lv_icmp_le (tgt := 55) C.1 C.2.1 dX0_isBetter_48 (by decide) (fun hc => ?_) (fun hc => ?_)
    · replace hf := hf.1 hc
      refine lv_iconst (v := 0) C.1 C.2.1 dX0_isBetter_55 (by decide) ?_
      exact x_zret C Wd (by decide) hf dX0_isBetter_56
    · replace hf := hf.2 hc
      refine lv_iconst (v := 1) C.1 C.2.1 dX0_isBetter_51 (by decide) ?_
      refine lv_goto (tgt := 56) C.1 C.2.1 dX0_isBetter_52 (by decide) ?_
      exact x_zret C Wd (by decide) hf dX0_isBetter_56
  · replace hf := hf.2 hc
    refine lv_aload_n C.1 C.2.1 dX0_isBetter_15 rfl (lv_at hl 0 rfl) ?_
    refine x_get_z C Wd dX0_isBetter_16 ?_
    refine lv_iload_n C.1 C.2.1 dX0_isBetter_19 rfl (lv_at hl 1 rfl) ?_
    refine x_ald_z C Wd hf.1 dX0_isBetter_20 ?_
    replace hf := hf.2
    refine lv_aload_n C.1 C.2.1 dX0_isBetter_21 rfl (lv_at hl 0 rfl) ?_
    refine x_get_z C Wd dX0_isBetter_22 ?_
    refine lv_iload_n C.1 C.2.1 dX0_isBetter_25 rfl (lv_at hl 2 rfl) ?_
    refine x_ald_z C Wd hf.1 dX0_isBetter_26 ?_
    replace hf := hf.2
    refine lv_icmp_ge (tgt := 34) C.1 C.2.1 dX0_isBetter_27 (by decide) (fun hc => ?_) (fun hc => ?_)
    · replace hf := hf.1 hc
      refine lv_iconst (v := 0) C.1 C.2.1 dX0_isBetter_34 (by decide) ?_
      exact x_zret C Wd (by decide) hf dX0_isBetter_35
    · replace hf := hf.2 hc
      refine lv_iconst (v := 1) C.1 C.2.1 dX0_isBetter_30 (by decide) ?_
      refine lv_goto (tgt := 35) C.1 C.2.1 dX0_isBetter_31 (by decide) ?_
      exact x_zret C Wd (by decide) hf dX0_isBetter_35
set_option maxHeartbeats 4000000 in
set_option maxRecDepth 100000 in
theorem bX_bestStored_4_f {p : Program} {l : Launch} {e : Env} {s : State} {m : MethodId} {args : Array Value} {below : List Frame} {meth : Method} {c : Code} {D : va_G} {ad : XA} {A : Nat → Prop} (C : x_C p s m args meth c cX0_bestStored 4 (some .int)) {post : Int32 → XS → Prop} : ∀ (f : Nat) (σ : XS) (H : Heap) (locs : List Loc) (ls : Array Slot) (v1 : Int32) (v2 : Int32) (v3 : Int32), x_W D ad σ A s H locs → wX_bestStored_4 (x_n ad) (x_lim ad) post f σ v1 v2 v3 → lv_has ls 4 [(0, .ref (x_h ad)), (1, .int v1), (2, .int v2), (3, .int v3)] → W p l e { frames := 1, cells := 0, slots := 0, locals := 22 } s m args below meth c H locs 0 0 (x_Qi below D ad A args s post) (F0 m 4 ls []) := by
  intro f
  induction f with
  | zero => intro σ H locs ls v1 v2 v3 Wd hf hl; exact False.elim hf
  | succ f ih =>
    intro σ H locs ls v1 v2 v3 Wd hf hl
    replace hf : wX_bestStored_4_s (x_n ad) (x_lim ad) post (wX_bestStored_4 (x_n ad) (x_lim ad) post f) σ v1 v2 v3 := hf
    refine lv_iload_n C.1 C.2.1 dX0_bestStored_4 rfl (lv_at hl 3 rfl) ?_
    refine lv_aload_n C.1 C.2.1 dX0_bestStored_5 rfl (lv_at hl 0 rfl) ?_
    refine x_get_en C Wd dX0_bestStored_6 ?_
    refine lv_icmp_ge (tgt := 52) C.1 C.2.1 dX0_bestStored_9 (by decide) (fun hc => ?_) (fun hc => ?_)
    · replace hf := hf.1 hc
      refine lv_iload_n C.1 C.2.1 dX0_bestStored_52 rfl (lv_at hl 2 rfl) ?_
      exact x_iret C Wd hf dX0_bestStored_53
    · replace hf := hf.2 hc
      refine lv_aload_n C.1 C.2.1 dX0_bestStored_12 rfl (lv_at hl 0 rfl) ?_
      refine lv_iload_n C.1 C.2.1 dX0_bestStored_13 rfl (lv_at hl 3 rfl) ?_
      refine x_calliv (As := [.int v3]) (rest := []) C Wd (cX_isStored l D ad v3) sX_isStored (by decide) rfl hl.1 rfl (Nat.le_of_ble_eq_true rfl) (by decide) dX0_bestStored_14 hf (fun r14 σ14 H locs hf Wd => ?_)
      refine lv_if_eq (tgt := 46) C.1 C.2.1 dX0_bestStored_17 (by decide) (fun hc => ?_) (fun hc => ?_)
      · replace hf := hf.1 hc
        refine lv_iinc (v := v3 + 1) (lv' := [(3, .int (v3 + 1)), (0, .ref (x_h ad)), (1, .int v1), (2, .int v2)]) C.1 C.2.1 dX0_bestStored_46 hl (k := 3) rfl rfl (by decide) rfl (fun ls hl => ?_)
        refine lv_goto (tgt := 4) C.1 C.2.1 dX0_bestStored_49 (by decide) ?_
        exact ih _ _ _ _ _ _ _  Wd hf (lv_sub hl [1, 2, 3, 0] rfl)
      · replace hf := hf.2 hc
        refine lv_aload_n C.1 C.2.1 dX0_bestStored_20 rfl (lv_at hl 0 rfl) ?_
        refine x_get_z C Wd dX0_bestStored_21 ?_
        refine lv_iload_n C.1 C.2.1 dX0_bestStored_24 rfl (lv_at hl 3 rfl) ?_
        refine x_ald_z C Wd hf.1 dX0_bestStored_25 ?_
        replace hf := hf.2
        refine lv_iload_n C.1 C.2.1 dX0_bestStored_26 rfl (lv_at hl 1 rfl) ?_
        refine lv_icmp_lt (tgt := 46) C.1 C.2.1 dX0_bestStored_27 (by decide) (fun hc => ?_) (fun hc => ?_)
        · replace hf := hf.1 hc
          refine lv_iinc (v := v3 + 1) (lv' := [(3, .int (v3 + 1)), (0, .ref (x_h ad)), (1, .int v1), (2, .int v2)]) C.1 C.2.1 dX0_bestStored_46 hl (k := 3) rfl rfl (by decide) rfl (fun ls hl => ?_)
          refine lv_goto (tgt := 4) C.1 C.2.1 dX0_bestStored_49 (by decide) ?_
          exact ih _ _ _ _ _ _ _  Wd hf (lv_sub hl [1, 2, 3, 0] rfl)
        · replace hf := hf.2 hc
          refine lv_iload_n C.1 C.2.1 dX0_bestStored_30 rfl (lv_at hl 2 rfl) ?_
          refine lv_iconst (v := (-1)) C.1 C.2.1 dX0_bestStored_31 (by decide) ?_
          refine lv_icmp_eq (tgt := 44) C.1 C.2.1 dX0_bestStored_32 (by decide) (fun hc => ?_) (fun hc => ?_)
          · replace hf := hf.1 hc
            refine lv_iload_n C.1 C.2.1 dX0_bestStored_44 rfl (lv_at hl 3 rfl) ?_
            refine lv_istore_n (lv' := [(2, .int v3), (0, .ref (x_h ad)), (1, .int v1), (3, .int v3)]) C.1 C.2.1 dX0_bestStored_45 rfl hl (by decide) rfl (fun ls hl => ?_)
            refine lv_iinc (v := v3 + 1) (lv' := [(3, .int (v3 + 1)), (2, .int v3), (0, .ref (x_h ad)), (1, .int v1)]) C.1 C.2.1 dX0_bestStored_46 hl (k := 3) rfl rfl (by decide) rfl (fun ls hl => ?_)
            refine lv_goto (tgt := 4) C.1 C.2.1 dX0_bestStored_49 (by decide) ?_
            exact ih _ _ _ _ _ _ _  Wd hf (lv_sub hl [2, 3, 1, 0] rfl)
          · replace hf := hf.2 hc
            refine lv_aload_n C.1 C.2.1 dX0_bestStored_35 rfl (lv_at hl 0 rfl) ?_
            refine lv_iload_n C.1 C.2.1 dX0_bestStored_36 rfl (lv_at hl 3 rfl) ?_
            refine lv_iload_n C.1 C.2.1 dX0_bestStored_37 rfl (lv_at hl 2 rfl) ?_
            refine x_calliv (As := [.int v3, .int v2]) (rest := []) C Wd (cX_isBetter l D ad v3 v2) sX_isBetter (by decide) rfl hl.1 rfl (Nat.le_of_ble_eq_true rfl) (by decide) dX0_bestStored_38 hf (fun r38 σ38 H locs hf Wd => ?_)
            refine lv_if_eq (tgt := 46) C.1 C.2.1 dX0_bestStored_41 (by decide) (fun hc => ?_) (fun hc => ?_)
            · replace hf := hf.1 hc
              refine lv_iinc (v := v3 + 1) (lv' := [(3, .int (v3 + 1)), (0, .ref (x_h ad)), (1, .int v1), (2, .int v2)]) C.1 C.2.1 dX0_bestStored_46 hl (k := 3) rfl rfl (by decide) rfl (fun ls hl => ?_)
              refine lv_goto (tgt := 4) C.1 C.2.1 dX0_bestStored_49 (by decide) ?_
              exact ih _ _ _ _ _ _ _  Wd hf (lv_sub hl [1, 2, 3, 0] rfl)
            · replace hf := hf.2 hc
              refine lv_iload_n C.1 C.2.1 dX0_bestStored_44 rfl (lv_at hl 3 rfl) ?_
              refine lv_istore_n (lv' := [(2, .int v3), (0, .ref (x_h ad)), (1, .int v1), (3, .int v3)]) C.1 C.2.1 dX0_bestStored_45 rfl hl (by decide) rfl (fun ls hl => ?_)
              refine lv_iinc (v := v3 + 1) (lv' := [(3, .int (v3 + 1)), (2, .int v3), (0, .ref (x_h ad)), (1, .int v1)]) C.1 C.2.1 dX0_bestStored_46 hl (k := 3) rfl rfl (by decide) rfl (fun ls hl => ?_)
              refine lv_goto (tgt := 4) C.1 C.2.1 dX0_bestStored_49 (by decide) ?_
              exact ih _ _ _ _ _ _ _  Wd hf (lv_sub hl [2, 3, 1, 0] rfl)
theorem bX_bestStored_4 {p : Program} {l : Launch} {e : Env} {s : State} {m : MethodId} {args : Array Value} {below : List Frame} {meth : Method} {c : Code} {D : va_G} {ad : XA} {A : Nat → Prop} (C : x_C p s m args meth c cX0_bestStored 4 (some .int)) {post : Int32 → XS → Prop} {σ : XS} {H : Heap} {locs : List Loc} {ls : Array Slot} {v1 : Int32} {v2 : Int32} {v3 : Int32} (Wd : x_W D ad σ A s H locs) (hf : ∃ f : Nat, wX_bestStored_4 (x_n ad) (x_lim ad) post f σ v1 v2 v3) (hl : lv_has ls 4 [(0, .ref (x_h ad)), (1, .int v1), (2, .int v2), (3, .int v3)]) : W p l e { frames := 1, cells := 0, slots := 0, locals := 22 } s m args below meth c H locs 0 0 (x_Qi below D ad A args s post) (F0 m 4 ls []) := by
  obtain ⟨f, hf⟩ := hf
  exact bX_bestStored_4_f C f σ H locs ls v1 v2 v3 Wd hf hl
set_option maxHeartbeats 4000000 in
set_option maxRecDepth 100000 in
theorem cX_bestStored (l : Launch) (D : va_G) (ad : XA) (v1 : Int32) : x_Mi l D yX0_bestStored cX0_bestStored 4 (some .int) { frames := 1, cells := 0, slots := 0, locals := 22 } ad [.ref (x_h ad), .int v1] (fun σ post => wX_bestStored (x_n ad) (x_lim ad) σ v1 post) := by
  refine x_ofi ⟨by decide, rfl, Nat.le_of_ble_eq_true rfl⟩ (fun {p e s m args below meth c σ A post ls} C Wd hf hl => ?_)
  replace hl : lv_has ls 4 [(0, .ref (x_h ad)), (1, .int v1)] := hl
  refine lv_iconst (v := (-1)) C.1 C.2.1 dX0_bestStored_0 (by decide) ?_
  refine lv_istore_n (lv' := [(2, .int (-1)), (0, .ref (x_h ad)), (1, .int v1)]) C.1 C.2.1 dX0_bestStored_1 rfl hl (by decide) rfl (fun ls hl => ?_)
  refine lv_iconst (v := 0) C.1 C.2.1 dX0_bestStored_2 (by decide) ?_
  refine lv_istore_n (lv' := [(3, .int 0), (2, .int (-1)), (0, .ref (x_h ad)), (1, .int v1)]) C.1 C.2.1 dX0_bestStored_3 rfl hl (by decide) rfl (fun ls hl => ?_)
  exact bX_bestStored_4 C Wd hf (lv_sub hl [2, 3, 1, 0] rfl)
set_option maxHeartbeats 4000000 in
set_option maxRecDepth 100000 in
theorem bX_lift_34 {p : Program} {l : Launch} {e : Env} {s : State} {m : MethodId} {args : Array Value} {below : List Frame} {meth : Method} {c : Code} {D : va_G} {ad : XA} {A : Nat → Prop} (C : x_C p s m args meth c cX0_lift 3 (some .int)) {post : Int32 → XS → Prop} {σ : XS} {H : Heap} {locs : List Loc} {ls : Array Slot} {v1 : Int32} {v2 : Int32} (Wd : x_W D ad σ A s H locs) (hf : wX_lift_34 (x_n ad) (x_lim ad) σ v1 v2 post) (hl : lv_has ls 3 [(0, .ref (x_h ad)), (1, .int v1), (2, .int v2)]) : W p l e { frames := 0, cells := 0, slots := 0, locals := 0 } s m args below meth c H locs 0 0 (x_Qi below D ad A args s post) (F0 m 34 ls []) := by
  refine lv_iload_n C.1 C.2.1 dX0_lift_34 rfl (lv_at hl 1 rfl) ?_
  refine lv_aload_n C.1 C.2.1 dX0_lift_35 rfl (lv_at hl 0 rfl) ?_
  refine x_get_tp C Wd dX0_lift_36 ?_
  refine lv_icmp_ne (tgt := 47) C.1 C.2.1 dX0_lift_39 (by decide) (fun hc => ?_) (fun hc => ?_)
  · replace hf := hf.1 hc
    refine lv_iload_n C.1 C.2.1 dX0_lift_47 rfl (lv_at hl 2 rfl) ?_
    exact x_iret C Wd hf dX0_lift_48
  · replace hf := hf.2 hc
    refine lv_aload_n C.1 C.2.1 dX0_lift_42 rfl (lv_at hl 0 rfl) ?_
    refine lv_iconst (v := (-1)) C.1 C.2.1 dX0_lift_43 (by decide) ?_
    refine x_put_tp C Wd dX0_lift_44 (fun H locs Wd => ?_)
    refine lv_iload_n C.1 C.2.1 dX0_lift_47 rfl (lv_at hl 2 rfl) ?_
    exact x_iret C Wd hf dX0_lift_48
set_option maxHeartbeats 4000000 in
set_option maxRecDepth 100000 in
theorem cX_lift (l : Launch) (D : va_G) (ad : XA) (v1 : Int32) : x_Mi l D yX0_lift cX0_lift 3 (some .int) { frames := 0, cells := 0, slots := 0, locals := 0 } ad [.ref (x_h ad), .int v1] (fun σ post => wX_lift (x_n ad) (x_lim ad) σ v1 post) := by
  refine x_ofi ⟨by decide, rfl, Nat.le_of_ble_eq_true rfl⟩ (fun {p e s m args below meth c σ A post ls} C Wd hf hl => ?_)
  replace hl : lv_has ls 3 [(0, .ref (x_h ad)), (1, .int v1)] := hl
  refine lv_aload_n C.1 C.2.1 dX0_lift_0 rfl (lv_at hl 0 rfl) ?_
  refine x_get_z C Wd dX0_lift_1 ?_
  refine lv_iload_n C.1 C.2.1 dX0_lift_4 rfl (lv_at hl 1 rfl) ?_
  refine x_ald_z C Wd hf.1 dX0_lift_5 ?_
  replace hf := hf.2
  refine lv_istore_n (lv' := [(2, .int (x_z σ v1.toNatClampNeg)), (0, .ref (x_h ad)), (1, .int v1)]) C.1 C.2.1 dX0_lift_6 rfl hl (by decide) rfl (fun ls hl => ?_)
  refine lv_aload_n C.1 C.2.1 dX0_lift_7 rfl (lv_at hl 1 rfl) ?_
  refine x_get_z C Wd dX0_lift_8 ?_
  refine lv_iload_n C.1 C.2.1 dX0_lift_11 rfl (lv_at hl 2 rfl) ?_
  refine lv_iconst (v := 0) C.1 C.2.1 dX0_lift_12 (by decide) ?_
  refine x_ast_z C Wd hf.1 dX0_lift_13 (fun H locs Wd => ?_)
  replace hf := hf.2
  refine lv_aload_n C.1 C.2.1 dX0_lift_14 rfl (lv_at hl 1 rfl) ?_
  refine x_get_t C Wd dX0_lift_15 ?_
  refine lv_iload_n C.1 C.2.1 dX0_lift_18 rfl (lv_at hl 2 rfl) ?_
  refine lv_iconst (v := (-1)) C.1 C.2.1 dX0_lift_19 (by decide) ?_
  refine x_ast_t C Wd hf.1 dX0_lift_20 (fun H locs Wd => ?_)
  replace hf := hf.2
  refine lv_iload_n C.1 C.2.1 dX0_lift_21 rfl (lv_at hl 2 rfl) ?_
  refine lv_aload_n C.1 C.2.1 dX0_lift_22 rfl (lv_at hl 1 rfl) ?_
  refine x_get_vi C Wd dX0_lift_23 ?_
  refine lv_icmp_ne (tgt := 34) C.1 C.2.1 dX0_lift_26 (by decide) (fun hc => ?_) (fun hc => ?_)
  · replace hf := hf.1 hc
    exact bX_lift_34 C Wd hf (lv_sub hl [1, 2, 0] rfl)
  · replace hf := hf.2 hc
    refine lv_aload_n C.1 C.2.1 dX0_lift_29 rfl (lv_at hl 1 rfl) ?_
    refine lv_iconst (v := (-1)) C.1 C.2.1 dX0_lift_30 (by decide) ?_
    refine x_put_vi C Wd dX0_lift_31 (fun H locs Wd => ?_)
    exact bX_lift_34 C Wd hf (lv_sub hl [1, 2, 0] rfl)
set_option maxHeartbeats 4000000 in
set_option maxRecDepth 100000 in
theorem bX_lay_66 {p : Program} {l : Launch} {e : Env} {s : State} {m : MethodId} {args : Array Value} {below : List Frame} {meth : Method} {c : Code} {D : va_G} {ad : XA} {A : Nat → Prop} (C : x_C p s m args meth c cX0_lay 4 none) {post : XS → Prop} {σ : XS} {H : Heap} {locs : List Loc} {ls : Array Slot} {v1 : Int32} {k1 : Int32} {k0 : Int32} (Wd : x_W D ad σ A s H locs) (hf : wX_lay_66 (x_n ad) (x_lim ad) σ v1 k1 k0 post) (hl : lv_has ls 4 [(0, .ref (x_h ad)), (1, .int v1)]) : W p l e { frames := 0, cells := 0, slots := 0, locals := 0 } s m args below meth c H locs 0 0 (x_Qv below D ad A args s post) (F0 m 66 ls [.int k0, .int k1, .ref (x_at ad)]) := by
  refine x_ast_t C Wd hf.1 dX0_lay_66 (fun H locs Wd => ?_)
  replace hf := hf.2
  refine lv_aload_n C.1 C.2.1 dX0_lay_67 rfl (lv_at hl 0 rfl) ?_
  refine lv_dup C.1 C.2.1 dX0_lay_68 rfl ?_
  refine x_get_la C Wd dX0_lay_69 ?_
  refine lv_iconst (v := 1) C.1 C.2.1 dX0_lay_72 (by decide) ?_
  refine lv_iadd C.1 C.2.1 dX0_lay_73 ?_
  refine x_put_la C Wd dX0_lay_74 (fun H locs Wd => ?_)
  refine lv_aload_n C.1 C.2.1 dX0_lay_77 rfl (lv_at hl 0 rfl) ?_
  refine x_get_r C Wd dX0_lay_78 ?_
  refine lv_iload_n C.1 C.2.1 dX0_lay_81 rfl (lv_at hl 1 rfl) ?_
  refine lv_aload_n C.1 C.2.1 dX0_lay_82 rfl (lv_at hl 0 rfl) ?_
  refine x_get_la C Wd dX0_lay_83 ?_
  refine x_ast_r C Wd hf.1 dX0_lay_86 (fun H locs Wd => ?_)
  replace hf := hf.2
  exact x_vret C Wd hf dX0_lay_87
set_option maxHeartbeats 4000000 in
set_option maxRecDepth 100000 in
theorem bX_lay_50 {p : Program} {l : Launch} {e : Env} {s : State} {m : MethodId} {args : Array Value} {below : List Frame} {meth : Method} {c : Code} {D : va_G} {ad : XA} {A : Nat → Prop} (C : x_C p s m args meth c cX0_lay 4 none) {post : XS → Prop} {σ : XS} {H : Heap} {locs : List Loc} {ls : Array Slot} {v1 : Int32} {v2 : Int32} (Wd : x_W D ad σ A s H locs) (hf : wX_lay_50 (x_n ad) (x_lim ad) σ v1 v2 post) (hl : lv_has ls 4 [(0, .ref (x_h ad)), (1, .int v1), (2, .int v2)]) : W p l e { frames := 0, cells := 0, slots := 0, locals := 0 } s m args below meth c H locs 0 0 (x_Qv below D ad A args s post) (F0 m 50 ls []) := by
  refine lv_aload_n C.1 C.2.1 dX0_lay_50 rfl (lv_at hl 0 rfl) ?_
  refine x_get_t C Wd dX0_lay_51 ?_
  refine lv_iload_n C.1 C.2.1 dX0_lay_54 rfl (lv_at hl 1 rfl) ?_
  refine lv_iload_n C.1 C.2.1 dX0_lay_55 rfl (lv_at hl 2 rfl) ?_
  refine lv_bipush (v := 16) C.1 C.2.1 dX0_lay_56 (by decide) ?_
  refine lv_icmp_ge (tgt := 65) C.1 C.2.1 dX0_lay_58 (by decide) (fun hc => ?_) (fun hc => ?_)
  · replace hf := hf.1 hc
    refine lv_iconst (v := 2) C.1 C.2.1 dX0_lay_65 (by decide) ?_
    exact bX_lay_66 C Wd hf (lv_sub hl [0, 1] rfl)
  · replace hf := hf.2 hc
    refine lv_iconst (v := 1) C.1 C.2.1 dX0_lay_61 (by decide) ?_
    refine lv_goto (tgt := 66) C.1 C.2.1 dX0_lay_62 (by decide) ?_
    exact bX_lay_66 C Wd hf (lv_sub hl [0, 1] rfl)
set_option maxHeartbeats 4000000 in
set_option maxRecDepth 100000 in
theorem cX_lay (l : Launch) (D : va_G) (ad : XA) (v1 : Int32) (v2 : Int32) (v3 : Int32) : x_Mv l D yX0_lay cX0_lay 4 none { frames := 0, cells := 0, slots := 0, locals := 0 } ad [.ref (x_h ad), .int v1, .int v2, .int v3] (fun σ post => wX_lay (x_n ad) (x_lim ad) σ v1 v2 v3 post) := by
  refine x_ofv ⟨by decide, rfl, Nat.le_of_ble_eq_true rfl⟩ (fun {p e s m args below meth c σ A post ls} C Wd hf hl => ?_)
  replace hl : lv_has ls 4 [(0, .ref (x_h ad)), (1, .int v1), (2, .int v2), (3, .int v3)] := hl
  refine lv_aload_n C.1 C.2.1 dX0_lay_0 rfl (lv_at hl 0 rfl) ?_
  refine x_get_z C Wd dX0_lay_1 ?_
  refine lv_iload_n C.1 C.2.1 dX0_lay_4 rfl (lv_at hl 1 rfl) ?_
  refine lv_iload_n C.1 C.2.1 dX0_lay_5 rfl (lv_at hl 2 rfl) ?_
  refine x_ast_z C Wd hf.1 dX0_lay_6 (fun H locs Wd => ?_)
  replace hf := hf.2
  refine lv_aload_n C.1 C.2.1 dX0_lay_7 rfl (lv_at hl 0 rfl) ?_
  refine x_get_t C Wd dX0_lay_8 ?_
  refine lv_iload_n C.1 C.2.1 dX0_lay_11 rfl (lv_at hl 1 rfl) ?_
  refine lv_iload_n C.1 C.2.1 dX0_lay_12 rfl (lv_at hl 3 rfl) ?_
  refine x_ast_t C Wd hf.1 dX0_lay_13 (fun H locs Wd => ?_)
  replace hf := hf.2
  refine lv_iload_n C.1 C.2.1 dX0_lay_14 rfl (lv_at hl 3 rfl) ?_
  refine lv_iconst (v := 4) C.1 C.2.1 dX0_lay_15 (by decide) ?_
  refine lv_icmp_ne (tgt := 27) C.1 C.2.1 dX0_lay_16 (by decide) (fun hc => ?_) (fun hc => ?_)
  · replace hf := hf.1 hc
    refine lv_iload_n C.1 C.2.1 dX0_lay_27 rfl (lv_at hl 3 rfl) ?_
    refine lv_iconst (v := 3) C.1 C.2.1 dX0_lay_28 (by decide) ?_
    refine lv_icmp_ne (tgt := 40) C.1 C.2.1 dX0_lay_29 (by decide) (fun hc => ?_) (fun hc => ?_)
    · replace hf := hf.1 hc
      refine lv_iload_n C.1 C.2.1 dX0_lay_40 rfl (lv_at hl 3 rfl) ?_
      refine lv_iconst (v := 1) C.1 C.2.1 dX0_lay_41 (by decide) ?_
      refine lv_icmp_eq (tgt := 50) C.1 C.2.1 dX0_lay_42 (by decide) (fun hc => ?_) (fun hc => ?_)
      · replace hf := hf.1 hc
        exact bX_lay_50 C Wd hf (lv_sub hl [0, 1, 2] rfl)
      · replace hf := hf.2 hc
        refine lv_iload_n C.1 C.2.1 dX0_lay_45 rfl (lv_at hl 3 rfl) ?_
        refine lv_iconst (v := 2) C.1 C.2.1 dX0_lay_46 (by decide) ?_
        refine lv_icmp_ne (tgt := 87) C.1 C.2.1 dX0_lay_47 (by decide) (fun hc => ?_) (fun hc => ?_)
        · replace hf := hf.1 hc
          exact x_vret C Wd hf dX0_lay_87
        · replace hf := hf.2 hc
          exact bX_lay_50 C Wd hf (lv_sub hl [0, 1, 2] rfl)
    · replace hf := hf.2 hc
      refine lv_aload_n C.1 C.2.1 dX0_lay_32 rfl (lv_at hl 0 rfl) ?_
      refine lv_iload_n C.1 C.2.1 dX0_lay_33 rfl (lv_at hl 1 rfl) ?_
      refine x_put_vi C Wd dX0_lay_34 (fun H locs Wd => ?_)
      refine lv_goto (tgt := 87) C.1 C.2.1 dX0_lay_37 (by decide) ?_
      exact x_vret C Wd hf dX0_lay_87
  · replace hf := hf.2 hc
    refine lv_aload_n C.1 C.2.1 dX0_lay_19 rfl (lv_at hl 0 rfl) ?_
    refine lv_iload_n C.1 C.2.1 dX0_lay_20 rfl (lv_at hl 1 rfl) ?_
    refine x_put_tp C Wd dX0_lay_21 (fun H locs Wd => ?_)
    refine lv_goto (tgt := 87) C.1 C.2.1 dX0_lay_24 (by decide) ?_
    exact x_vret C Wd hf dX0_lay_87
set_option maxHeartbeats 4000000 in
set_option maxRecDepth 100000 in
theorem cX_cut (l : Launch) (D : va_G) (ad : XA) (v1 : Int32) (v2 : Int32) (v3 : Int32) : x_Mi l D yX0_cut cX0_cut 6 (some .int) { frames := 1, cells := 0, slots := 0, locals := 23 } ad [.ref (x_h ad), .int v1, .int v2, .int v3] (fun σ post => wX_cut (x_n ad) (x_lim ad) σ v1 v2 v3 post) := by
  refine x_ofi ⟨by decide, rfl, Nat.le_of_ble_eq_true rfl⟩ (fun {p e s m args below meth c σ A post ls} C Wd hf hl => ?_)
  replace hl : lv_has ls 6 [(0, .ref (x_h ad)), (1, .int v1), (2, .int v2), (3, .int v3)] := hl
  refine lv_aload_n C.1 C.2.1 dX0_cut_0 rfl (lv_at hl 0 rfl) ?_
  refine lv_iload_n C.1 C.2.1 dX0_cut_1 rfl (lv_at hl 1 rfl) ?_
  refine x_calliv (As := [.int v1]) (rest := []) C Wd (cX_lift l D ad v1) sX_lift (by decide) rfl hl.1 rfl (Nat.le_of_ble_eq_true rfl) (by decide) dX0_cut_2 hf (fun r2 σ2 H locs hf Wd => ?_)
  refine lv_istore (lv' := [(4, .int r2), (0, .ref (x_h ad)), (1, .int v1), (2, .int v2), (3, .int v3)]) C.1 C.2.1 dX0_cut_5 hl (by decide) rfl (fun ls hl => ?_)
  refine lv_iload C.1 C.2.1 dX0_cut_7 (lv_at hl 0 rfl) ?_
  refine lv_iload_n C.1 C.2.1 dX0_cut_9 rfl (lv_at hl 3 rfl) ?_
  refine lv_isub C.1 C.2.1 dX0_cut_10 ?_
  refine lv_istore (lv' := [(5, .int (r2 - v2)), (4, .int r2), (0, .ref (x_h ad)), (1, .int v1), (2, .int v2), (3, .int v3)]) C.1 C.2.1 dX0_cut_11 hl (by decide) rfl (fun ls hl => ?_)
  refine lv_iload C.1 C.2.1 dX0_cut_13 (lv_at hl 0 rfl) ?_
  refine lv_iconst (v := 2) C.1 C.2.1 dX0_cut_15 (by decide) ?_
  refine lv_icmp_ge (tgt := 30) C.1 C.2.1 dX0_cut_16 (by decide) (fun hc => ?_) (fun hc => ?_)
  · replace hf := hf.1 hc
    refine lv_aload_n C.1 C.2.1 dX0_cut_30 rfl (lv_at hl 2 rfl) ?_
    refine lv_iload_n C.1 C.2.1 dX0_cut_31 rfl (lv_at hl 3 rfl) ?_
    refine lv_iload_n C.1 C.2.1 dX0_cut_32 rfl (lv_at hl 4 rfl) ?_
    refine lv_iconst (v := 0) C.1 C.2.1 dX0_cut_33 (by decide) ?_
    refine x_callvv (As := [.int v1, .int v2, .int 0]) (rest := []) C Wd (cX_lay l D ad v1 v2 0) sX_lay (by decide) rfl hl.1 rfl (Nat.le_of_ble_eq_true rfl) (by decide) dX0_cut_34 hf (fun σ34 H locs hf Wd => ?_)
    refine lv_aload_n C.1 C.2.1 dX0_cut_37 rfl (lv_at hl 2 rfl) ?_
    refine lv_iload_n C.1 C.2.1 dX0_cut_38 rfl (lv_at hl 3 rfl) ?_
    refine lv_iload_n C.1 C.2.1 dX0_cut_39 rfl (lv_at hl 4 rfl) ?_
    refine lv_iadd C.1 C.2.1 dX0_cut_40 ?_
    refine lv_iload C.1 C.2.1 dX0_cut_41 (lv_at hl 0 rfl) ?_
    refine lv_iload_n C.1 C.2.1 dX0_cut_43 rfl (lv_at hl 5 rfl) ?_
    refine x_callvv (As := [.int (v1 + v2), .int (r2 - v2), .int v3]) (rest := []) C Wd (cX_lay l D ad (v1 + v2) (r2 - v2) v3) sX_lay (by decide) rfl hl.1 rfl (Nat.le_of_ble_eq_true rfl) (by decide) dX0_cut_44 hf (fun σ44 H locs hf Wd => ?_)
    refine lv_iload_n C.1 C.2.1 dX0_cut_47 rfl (lv_at hl 3 rfl) ?_
    exact x_iret C Wd hf dX0_cut_48
  · replace hf := hf.2 hc
    refine lv_aload_n C.1 C.2.1 dX0_cut_19 rfl (lv_at hl 2 rfl) ?_
    refine lv_iload_n C.1 C.2.1 dX0_cut_20 rfl (lv_at hl 3 rfl) ?_
    refine lv_iload C.1 C.2.1 dX0_cut_21 (lv_at hl 1 rfl) ?_
    refine lv_iconst (v := 0) C.1 C.2.1 dX0_cut_23 (by decide) ?_
    refine x_callvv (As := [.int v1, .int r2, .int 0]) (rest := []) C Wd (cX_lay l D ad v1 r2 0) sX_lay (by decide) rfl hl.1 rfl (Nat.le_of_ble_eq_true rfl) (by decide) dX0_cut_24 hf (fun σ24 H locs hf Wd => ?_)
    refine lv_goto (tgt := 47) C.1 C.2.1 dX0_cut_27 (by decide) ?_
    refine lv_iload_n C.1 C.2.1 dX0_cut_47 rfl (lv_at hl 3 rfl) ?_
    exact x_iret C Wd hf dX0_cut_48
set_option maxHeartbeats 4000000 in
set_option maxRecDepth 100000 in
theorem cX_sizeAt (l : Launch) (D : va_G) (ad : XA) (v1 : Int32) : x_Mi l D yX0_sizeAt cX0_sizeAt 2 (some .int) { frames := 0, cells := 0, slots := 0, locals := 0 } ad [.ref (x_h ad), .int v1] (fun σ post => wX_sizeAt (x_n ad) (x_lim ad) σ v1 post) := by
  refine x_ofi ⟨by decide, rfl, Nat.le_of_ble_eq_true rfl⟩ (fun {p e s m args below meth c σ A post ls} C Wd hf hl => ?_)
  replace hl : lv_has ls 2 [(0, .ref (x_h ad)), (1, .int v1)] := hl
  refine lv_iload_n C.1 C.2.1 dX0_sizeAt_0 rfl (lv_at hl 1 rfl) ?_
  refine lv_iconst (v := (-1)) C.1 C.2.1 dX0_sizeAt_1 (by decide) ?_
  refine lv_icmp_ne (tgt := 9) C.1 C.2.1 dX0_sizeAt_2 (by decide) (fun hc => ?_) (fun hc => ?_)
  · replace hf := hf.1 hc
    refine lv_aload_n C.1 C.2.1 dX0_sizeAt_9 rfl (lv_at hl 0 rfl) ?_
    refine x_get_z C Wd dX0_sizeAt_10 ?_
    refine lv_iload_n C.1 C.2.1 dX0_sizeAt_13 rfl (lv_at hl 1 rfl) ?_
    refine x_ald_z C Wd hf.1 dX0_sizeAt_14 ?_
    replace hf := hf.2
    exact x_iret C Wd hf dX0_sizeAt_15
  · replace hf := hf.2 hc
    refine lv_iconst (v := 0) C.1 C.2.1 dX0_sizeAt_5 (by decide) ?_
    refine lv_goto (tgt := 15) C.1 C.2.1 dX0_sizeAt_6 (by decide) ?_
    exact x_iret C Wd hf dX0_sizeAt_15
set_option maxHeartbeats 4000000 in
set_option maxRecDepth 100000 in
theorem cX_cutForVictim (l : Launch) (D : va_G) (ad : XA) (v1 : Int32) (v2 : Int32) : x_Mi l D yX0_cutForVictim cX0_cutForVictim 4 (some .int) { frames := 2, cells := 0, slots := 0, locals := 48 } ad [.ref (x_h ad), .int v1, .int v2] (fun σ post => wX_cutForVictim (x_n ad) (x_lim ad) σ v1 v2 post) := by
  refine x_ofi ⟨by decide, rfl, Nat.le_of_ble_eq_true rfl⟩ (fun {p e s m args below meth c σ A post ls} C Wd hf hl => ?_)
  replace hl : lv_has ls 4 [(0, .ref (x_h ad)), (1, .int v1), (2, .int v2)] := hl
  refine lv_aload_n C.1 C.2.1 dX0_cutForVictim_0 rfl (lv_at hl 0 rfl) ?_
  refine x_get_vi C Wd dX0_cutForVictim_1 ?_
  refine lv_istore_n (lv' := [(3, .int (x_vi σ)), (0, .ref (x_h ad)), (1, .int v1), (2, .int v2)]) C.1 C.2.1 dX0_cutForVictim_4 rfl hl (by decide) rfl (fun ls hl => ?_)
  refine lv_aload_n C.1 C.2.1 dX0_cutForVictim_5 rfl (lv_at hl 1 rfl) ?_
  refine lv_iload_n C.1 C.2.1 dX0_cutForVictim_6 rfl (lv_at hl 2 rfl) ?_
  refine lv_iload_n C.1 C.2.1 dX0_cutForVictim_7 rfl (lv_at hl 3 rfl) ?_
  refine lv_iconst (v := 3) C.1 C.2.1 dX0_cutForVictim_8 (by decide) ?_
  refine x_calliv (As := [.int v1, .int v2, .int 3]) (rest := []) C Wd (cX_cut l D ad v1 v2 3) sX_cut (by decide) rfl hl.1 rfl (Nat.le_of_ble_eq_true rfl) (by decide) dX0_cutForVictim_9 hf (fun r9 σ9 H locs hf Wd => ?_)
  refine lv_pop C.1 C.2.1 dX0_cutForVictim_12 rfl ?_
  refine lv_iload_n C.1 C.2.1 dX0_cutForVictim_13 rfl (lv_at hl 0 rfl) ?_
  refine lv_iconst (v := (-1)) C.1 C.2.1 dX0_cutForVictim_14 (by decide) ?_
  refine lv_icmp_eq (tgt := 38) C.1 C.2.1 dX0_cutForVictim_15 (by decide) (fun hc => ?_) (fun hc => ?_)
  · replace hf := hf.1 hc
    refine lv_iload_n C.1 C.2.1 dX0_cutForVictim_38 rfl (lv_at hl 2 rfl) ?_
    exact x_iret C Wd hf dX0_cutForVictim_39
  · replace hf := hf.2 hc
    refine lv_iload_n C.1 C.2.1 dX0_cutForVictim_18 rfl (lv_at hl 0 rfl) ?_
    refine lv_aload_n C.1 C.2.1 dX0_cutForVictim_19 rfl (lv_at hl 1 rfl) ?_
    refine x_get_vi C Wd dX0_cutForVictim_20 ?_
    refine lv_icmp_eq (tgt := 38) C.1 C.2.1 dX0_cutForVictim_23 (by decide) (fun hc => ?_) (fun hc => ?_)
    · replace hf := hf.1 hc
      refine lv_iload_n C.1 C.2.1 dX0_cutForVictim_38 rfl (lv_at hl 2 rfl) ?_
      exact x_iret C Wd hf dX0_cutForVictim_39
    · replace hf := hf.2 hc
      refine lv_aload_n C.1 C.2.1 dX0_cutForVictim_26 rfl (lv_at hl 1 rfl) ?_
      refine lv_iload_n C.1 C.2.1 dX0_cutForVictim_27 rfl (lv_at hl 0 rfl) ?_
      refine lv_aload_n C.1 C.2.1 dX0_cutForVictim_28 rfl (lv_at hl 1 rfl) ?_
      refine x_get_z C Wd dX0_cutForVictim_29 ?_
      refine lv_iload_n C.1 C.2.1 dX0_cutForVictim_32 rfl (lv_at hl 0 rfl) ?_
      refine x_ald_z C Wd hf.1 dX0_cutForVictim_33 ?_
      replace hf := hf.2
      refine lv_iconst (v := 2) C.1 C.2.1 dX0_cutForVictim_34 (by decide) ?_
      refine x_callvv (As := [.int (x_vi σ), .int (x_z σ9 (x_vi σ).toNatClampNeg), .int 2]) (rest := []) C Wd (cX_lay l D ad (x_vi σ) (x_z σ9 (x_vi σ).toNatClampNeg) 2) sX_lay (by decide) rfl hl.1 rfl (Nat.le_of_ble_eq_true rfl) (by decide) dX0_cutForVictim_35 hf (fun σ35 H locs hf Wd => ?_)
      refine lv_iload_n C.1 C.2.1 dX0_cutForVictim_38 rfl (lv_at hl 2 rfl) ?_
      exact x_iret C Wd hf dX0_cutForVictim_39
