set_option maxHeartbeats 4000000 in
set_option maxRecDepth 100000 in
theorem cX_isCountedBy (l : Launch) (D : va_G) (ad : XA) (v1 : Int32) (v2 : Int32) : x_Mi l D yX0_isCountedBy cX0_isCountedBy 3 (some .boolean) { frames := 0, cells := 0, slots := 0, locals := 0 } ad [.ref (x_h ad), .int v1, .int v2] (fun σ post => wX_isCountedBy (x_n ad) (x_lim ad) σ v1 v2 post) := by
  refine x_ofi ⟨by decide, rfl, Nat.le_of_ble_eq_true rfl⟩ (fun {p e s m args below meth c σ A post ls} C Wd hf hl => ?_)
  replace hl : lv_has ls 3 [(0, .ref (x_h ad)), (1, .int v1), (2, .int v2)] := hl
  refine lv_iload_n C.1 C.2.1 dX0_isCountedBy_0 rfl (lv_at hl 1 rfl) ?_
  by_cases hc0 : v1 = 0
  · replace hf := hf.1 hc0
    refine lv_lookup (off := 35) (tgt := 36) C.1 C.2.1 dX0_isCountedBy_1 (by decide) (by rw [hc0] <;> first | rfl | decide) (by decide) ?_
    refine lv_aload_n C.1 C.2.1 dX0_isCountedBy_36 rfl (lv_at hl 0 rfl) ?_
    refine x_get_t C Wd dX0_isCountedBy_37 ?_
    refine lv_iload_n C.1 C.2.1 dX0_isCountedBy_40 rfl (lv_at hl 2 rfl) ?_
    refine x_ald_t C Wd hf.1 dX0_isCountedBy_41 ?_
    replace hf := hf.2
    refine lv_if_ne (tgt := 49) C.1 C.2.1 dX0_isCountedBy_42 (by decide) (fun hc => ?_) (fun hc => ?_)
    · replace hf := hf.1 hc
      refine lv_iconst (v := 0) C.1 C.2.1 dX0_isCountedBy_49 (by decide) ?_
      exact x_zret C Wd (by decide) hf dX0_isCountedBy_50
    · replace hf := hf.2 hc
      refine lv_iconst (v := 1) C.1 C.2.1 dX0_isCountedBy_45 (by decide) ?_
      refine lv_goto (tgt := 50) C.1 C.2.1 dX0_isCountedBy_46 (by decide) ?_
      exact x_zret C Wd (by decide) hf dX0_isCountedBy_50
  · replace hf := hf.2 hc0
    by_cases hc1 : v1 = 1
    · replace hf := hf.1 hc1
      refine lv_lookup (off := 50) (tgt := 51) C.1 C.2.1 dX0_isCountedBy_1 (by decide) (by rw [lv_osw hc0 (k := 0) (by decide), hc1] <;> first | rfl | decide) (by decide) ?_
      refine lv_iconst (v := 1) C.1 C.2.1 dX0_isCountedBy_51 (by decide) ?_
      exact x_zret C Wd (by decide) hf dX0_isCountedBy_52
    · replace hf := hf.2 hc1
      by_cases hc2 : v1 = 16
      · replace hf := hf.1 hc2
        refine lv_lookup (off := 52) (tgt := 53) C.1 C.2.1 dX0_isCountedBy_1 (by decide) (by rw [lv_osw hc0 (k := 0) (by decide), lv_osw hc1 (k := 1) (by decide), hc2] <;> first | rfl | decide) (by decide) ?_
        refine lv_aload_n C.1 C.2.1 dX0_isCountedBy_53 rfl (lv_at hl 0 rfl) ?_
        refine x_get_t C Wd dX0_isCountedBy_54 ?_
        refine lv_iload_n C.1 C.2.1 dX0_isCountedBy_57 rfl (lv_at hl 2 rfl) ?_
        refine x_ald_t C Wd hf.1 dX0_isCountedBy_58 ?_
        replace hf := hf.2
        refine lv_iconst (v := 2) C.1 C.2.1 dX0_isCountedBy_59 (by decide) ?_
        refine lv_icmp_ne (tgt := 67) C.1 C.2.1 dX0_isCountedBy_60 (by decide) (fun hc => ?_) (fun hc => ?_)
        · replace hf := hf.1 hc
          refine lv_iconst (v := 0) C.1 C.2.1 dX0_isCountedBy_67 (by decide) ?_
          exact x_zret C Wd (by decide) hf dX0_isCountedBy_68
        · replace hf := hf.2 hc
          refine lv_iconst (v := 1) C.1 C.2.1 dX0_isCountedBy_63 (by decide) ?_
          refine lv_goto (tgt := 68) C.1 C.2.1 dX0_isCountedBy_64 (by decide) ?_
          exact x_zret C Wd (by decide) hf dX0_isCountedBy_68
      · replace hf := hf.2 hc2
        refine lv_lookup (off := 68) (tgt := 69) C.1 C.2.1 dX0_isCountedBy_1 (by decide) (by rw [lv_osw hc0 (k := 0) (by decide), lv_osw hc1 (k := 1) (by decide), lv_osw hc2 (k := 16) (by decide)] <;> first | rfl | decide) (by decide) ?_
        refine lv_aload_n C.1 C.2.1 dX0_isCountedBy_69 rfl (lv_at hl 0 rfl) ?_
        refine x_get_t C Wd dX0_isCountedBy_70 ?_
        refine lv_iload_n C.1 C.2.1 dX0_isCountedBy_73 rfl (lv_at hl 2 rfl) ?_
        refine x_ald_t C Wd hf.1 dX0_isCountedBy_74 ?_
        replace hf := hf.2
        refine lv_iconst (v := 1) C.1 C.2.1 dX0_isCountedBy_75 (by decide) ?_
        refine lv_icmp_ne (tgt := 93) C.1 C.2.1 dX0_isCountedBy_76 (by decide) (fun hc => ?_) (fun hc => ?_)
        · replace hf := hf.1 hc
          refine lv_iconst (v := 0) C.1 C.2.1 dX0_isCountedBy_93 (by decide) ?_
          exact x_zret C Wd (by decide) hf dX0_isCountedBy_94
        · replace hf := hf.2 hc
          refine lv_aload_n C.1 C.2.1 dX0_isCountedBy_79 rfl (lv_at hl 0 rfl) ?_
          refine x_get_z C Wd dX0_isCountedBy_80 ?_
          refine lv_iload_n C.1 C.2.1 dX0_isCountedBy_83 rfl (lv_at hl 2 rfl) ?_
          refine x_ald_z C Wd hf.1 dX0_isCountedBy_84 ?_
          replace hf := hf.2
          refine lv_iload_n C.1 C.2.1 dX0_isCountedBy_85 rfl (lv_at hl 1 rfl) ?_
          refine lv_icmp_ne (tgt := 93) C.1 C.2.1 dX0_isCountedBy_86 (by decide) (fun hc => ?_) (fun hc => ?_)
          · replace hf := hf.1 hc
            refine lv_iconst (v := 0) C.1 C.2.1 dX0_isCountedBy_93 (by decide) ?_
            exact x_zret C Wd (by decide) hf dX0_isCountedBy_94
          · replace hf := hf.2 hc
            refine lv_iconst (v := 1) C.1 C.2.1 dX0_isCountedBy_89 (by decide) ?_
            refine lv_goto (tgt := 94) C.1 C.2.1 dX0_isCountedBy_90 (by decide) ?_
            exact x_zret C Wd (by decide) hf dX0_isCountedBy_94
set_option maxHeartbeats 4000000 in
set_option maxRecDepth 100000 in
theorem bX_count_16_f {p : Program} {l : Launch} {e : Env} {s : State} {m : MethodId} {args : Array Value} {below : List Frame} {meth : Method} {c : Code} {D : va_G} {ad : XA} {A : Nat → Prop} (C : x_C p s m args meth c cX0_count 4 (some .int)) {post : Int32 → XS → Prop} : ∀ (f : Nat) (σ : XS) (H : Heap) (locs : List Loc) (ls : Array Slot) (v1 : Int32) (v2 : Int32) (v3 : Int32), x_W D ad σ A s H locs → wX_count_16 (x_n ad) (x_lim ad) post f σ v1 v2 v3 → lv_has ls 4 [(0, .ref (x_h ad)), (1, .int v1), (2, .int v2), (3, .int v3)] → W p l e { frames := 1, cells := 0, slots := 0, locals := 22 } s m args below meth c H locs 0 0 (x_Qi below D ad A args s post) (F0 m 16 ls []) := by
  intro f
  induction f with
  | zero => intro σ H locs ls v1 v2 v3 Wd hf hl; exact False.elim hf
  | succ f ih =>
    intro σ H locs ls v1 v2 v3 Wd hf hl
    replace hf : wX_count_16_s (x_n ad) (x_lim ad) post (wX_count_16 (x_n ad) (x_lim ad) post f) σ v1 v2 v3 := hf
    refine lv_iload_n C.1 C.2.1 dX0_count_16 rfl (lv_at hl 3 rfl) ?_
    refine lv_aload_n C.1 C.2.1 dX0_count_17 rfl (lv_at hl 0 rfl) ?_
    refine x_get_en C Wd dX0_count_18 ?_
    refine lv_icmp_ge (tgt := 52) C.1 C.2.1 dX0_count_21 (by decide) (fun hc => ?_) (fun hc => ?_)
    · replace hf := hf.1 hc
      refine lv_iload_n C.1 C.2.1 dX0_count_52 rfl (lv_at hl 2 rfl) ?_
      exact x_iret C Wd hf dX0_count_53
    · replace hf := hf.2 hc
      refine lv_aload_n C.1 C.2.1 dX0_count_24 rfl (lv_at hl 0 rfl) ?_
      refine x_get_t C Wd dX0_count_25 ?_
      refine lv_iload_n C.1 C.2.1 dX0_count_28 rfl (lv_at hl 3 rfl) ?_
      refine x_ald_t C Wd hf.1 dX0_count_29 ?_
      replace hf := hf.2
      refine lv_iconst (v := (-1)) C.1 C.2.1 dX0_count_30 (by decide) ?_
      refine lv_icmp_eq (tgt := 46) C.1 C.2.1 dX0_count_31 (by decide) (fun hc => ?_) (fun hc => ?_)
      · replace hf := hf.1 hc
        refine lv_iinc (v := v3 + 1) (lv' := [(3, .int (v3 + 1)), (0, .ref (x_h ad)), (1, .int v1), (2, .int v2)]) C.1 C.2.1 dX0_count_46 hl (k := 3) rfl rfl (by decide) rfl (fun ls hl => ?_)
        refine lv_goto (tgt := 16) C.1 C.2.1 dX0_count_49 (by decide) ?_
        exact ih _ _ _ _ _ _ _  Wd hf (lv_sub hl [1, 2, 3, 0] rfl)
      · replace hf := hf.2 hc
        refine lv_aload_n C.1 C.2.1 dX0_count_34 rfl (lv_at hl 0 rfl) ?_
        refine lv_iload_n C.1 C.2.1 dX0_count_35 rfl (lv_at hl 1 rfl) ?_
        refine lv_iload_n C.1 C.2.1 dX0_count_36 rfl (lv_at hl 3 rfl) ?_
        refine x_calliv (As := [.int v1, .int v3]) (rest := []) C Wd (cX_isCountedBy l D ad v1 v3) sX_isCountedBy (by decide) rfl hl.1 rfl (Nat.le_of_ble_eq_true rfl) (by decide) dX0_count_37 hf (fun r37 σ37 H locs hf Wd => ?_)
        refine lv_if_eq (tgt := 46) C.1 C.2.1 dX0_count_40 (by decide) (fun hc => ?_) (fun hc => ?_)
        · replace hf := hf.1 hc
          refine lv_iinc (v := v3 + 1) (lv' := [(3, .int (v3 + 1)), (0, .ref (x_h ad)), (1, .int v1), (2, .int v2)]) C.1 C.2.1 dX0_count_46 hl (k := 3) rfl rfl (by decide) rfl (fun ls hl => ?_)
          refine lv_goto (tgt := 16) C.1 C.2.1 dX0_count_49 (by decide) ?_
          exact ih _ _ _ _ _ _ _  Wd hf (lv_sub hl [1, 2, 3, 0] rfl)
        · replace hf := hf.2 hc
          refine lv_iinc (v := v2 + 1) (lv' := [(2, .int (v2 + 1)), (0, .ref (x_h ad)), (1, .int v1), (3, .int v3)]) C.1 C.2.1 dX0_count_43 hl (k := 2) rfl rfl (by decide) rfl (fun ls hl => ?_)
          refine lv_iinc (v := v3 + 1) (lv' := [(3, .int (v3 + 1)), (2, .int (v2 + 1)), (0, .ref (x_h ad)), (1, .int v1)]) C.1 C.2.1 dX0_count_46 hl (k := 3) rfl rfl (by decide) rfl (fun ls hl => ?_)
          refine lv_goto (tgt := 16) C.1 C.2.1 dX0_count_49 (by decide) ?_
          exact ih _ _ _ _ _ _ _  Wd hf (lv_sub hl [2, 3, 1, 0] rfl)
theorem bX_count_16 {p : Program} {l : Launch} {e : Env} {s : State} {m : MethodId} {args : Array Value} {below : List Frame} {meth : Method} {c : Code} {D : va_G} {ad : XA} {A : Nat → Prop} (C : x_C p s m args meth c cX0_count 4 (some .int)) {post : Int32 → XS → Prop} {σ : XS} {H : Heap} {locs : List Loc} {ls : Array Slot} {v1 : Int32} {v2 : Int32} {v3 : Int32} (Wd : x_W D ad σ A s H locs) (hf : ∃ f : Nat, wX_count_16 (x_n ad) (x_lim ad) post f σ v1 v2 v3) (hl : lv_has ls 4 [(0, .ref (x_h ad)), (1, .int v1), (2, .int v2), (3, .int v3)]) : W p l e { frames := 1, cells := 0, slots := 0, locals := 22 } s m args below meth c H locs 0 0 (x_Qi below D ad A args s post) (F0 m 16 ls []) := by
  obtain ⟨f, hf⟩ := hf
  exact bX_count_16_f C f σ H locs ls v1 v2 v3 Wd hf hl
set_option maxHeartbeats 4000000 in
set_option maxRecDepth 100000 in
theorem cX_count (l : Launch) (D : va_G) (ad : XA) (v1 : Int32) : x_Mi l D yX0_count cX0_count 4 (some .int) { frames := 1, cells := 0, slots := 0, locals := 22 } ad [.ref (x_h ad), .int v1] (fun σ post => wX_count (x_n ad) (x_lim ad) σ v1 post) := by
  refine x_ofi ⟨by decide, rfl, Nat.le_of_ble_eq_true rfl⟩ (fun {p e s m args below meth c σ A post ls} C Wd hf hl => ?_)
  replace hl : lv_has ls 4 [(0, .ref (x_h ad)), (1, .int v1)] := hl
  refine lv_iload_n C.1 C.2.1 dX0_count_0 rfl (lv_at hl 1 rfl) ?_
  refine lv_if_lt (tgt := 10) C.1 C.2.1 dX0_count_1 (by decide) (fun hc => ?_) (fun hc => ?_)
  · replace hf := hf.1 hc
    refine lv_iconst (v := (-1)) C.1 C.2.1 dX0_count_10 (by decide) ?_
    exact x_iret C Wd hf dX0_count_11
  · replace hf := hf.2 hc
    refine lv_iload_n C.1 C.2.1 dX0_count_4 rfl (lv_at hl 1 rfl) ?_
    refine lv_bipush (v := 16) C.1 C.2.1 dX0_count_5 (by decide) ?_
    refine lv_icmp_le (tgt := 12) C.1 C.2.1 dX0_count_7 (by decide) (fun hc => ?_) (fun hc => ?_)
    · replace hf := hf.1 hc
      refine lv_iconst (v := 0) C.1 C.2.1 dX0_count_12 (by decide) ?_
      refine lv_istore_n (lv' := [(2, .int 0), (0, .ref (x_h ad)), (1, .int v1)]) C.1 C.2.1 dX0_count_13 rfl hl (by decide) rfl (fun ls hl => ?_)
      refine lv_iconst (v := 0) C.1 C.2.1 dX0_count_14 (by decide) ?_
      refine lv_istore_n (lv' := [(3, .int 0), (2, .int 0), (0, .ref (x_h ad)), (1, .int v1)]) C.1 C.2.1 dX0_count_15 rfl hl (by decide) rfl (fun ls hl => ?_)
      exact bX_count_16 C Wd hf (lv_sub hl [2, 3, 1, 0] rfl)
    · replace hf := hf.2 hc
      refine lv_iconst (v := (-1)) C.1 C.2.1 dX0_count_10 (by decide) ?_
      exact x_iret C Wd hf dX0_count_11
set_option maxHeartbeats 4000000 in
set_option maxRecDepth 100000 in
theorem cX_end (l : Launch) (D : va_G) (ad : XA) : x_Mi l D yX0_end cX0_end 1 (some .int) { frames := 0, cells := 0, slots := 0, locals := 0 } ad [.ref (x_h ad)] (fun σ post => wX_end (x_n ad) (x_lim ad) σ  post) := by
  refine x_ofi ⟨by decide, rfl, Nat.le_of_ble_eq_true rfl⟩ (fun {p e s m args below meth c σ A post ls} C Wd hf hl => ?_)
  replace hl : lv_has ls 1 [(0, .ref (x_h ad))] := hl
  refine lv_aload_n C.1 C.2.1 dX0_end_0 rfl (lv_at hl 0 rfl) ?_
  refine x_get_en C Wd dX0_end_1 ?_
  exact x_iret C Wd hf dX0_end_4
set_option maxHeartbeats 4000000 in
set_option maxRecDepth 100000 in
theorem bX_total_15_f {p : Program} {l : Launch} {e : Env} {s : State} {m : MethodId} {args : Array Value} {below : List Frame} {meth : Method} {c : Code} {D : va_G} {ad : XA} {A : Nat → Prop} (C : x_C p s m args meth c cX0_total 4 (some .int)) {post : Int32 → XS → Prop} : ∀ (f : Nat) (σ : XS) (H : Heap) (locs : List Loc) (ls : Array Slot) (v1 : Int32) (v2 : Int32) (v3 : Int32), x_W D ad σ A s H locs → wX_total_15 (x_n ad) (x_lim ad) post f σ v1 v2 v3 → lv_has ls 4 [(0, .ref (x_h ad)), (1, .int v1), (2, .int v2), (3, .int v3)] → W p l e { frames := 0, cells := 0, slots := 0, locals := 0 } s m args below meth c H locs 0 0 (x_Qi below D ad A args s post) (F0 m 15 ls []) := by
  intro f
  induction f with
  | zero => intro σ H locs ls v1 v2 v3 Wd hf hl; exact False.elim hf
  | succ f ih =>
    intro σ H locs ls v1 v2 v3 Wd hf hl
    replace hf : wX_total_15_s (x_n ad) (x_lim ad) post (wX_total_15 (x_n ad) (x_lim ad) post f) σ v1 v2 v3 := hf
    refine lv_iload_n C.1 C.2.1 dX0_total_15 rfl (lv_at hl 3 rfl) ?_
    refine lv_aload_n C.1 C.2.1 dX0_total_16 rfl (lv_at hl 0 rfl) ?_
    refine x_get_en C Wd dX0_total_17 ?_
    refine lv_icmp_ge (tgt := 48) C.1 C.2.1 dX0_total_20 (by decide) (fun hc => ?_) (fun hc => ?_)
    · replace hf := hf.1 hc
      refine lv_iload_n C.1 C.2.1 dX0_total_48 rfl (lv_at hl 2 rfl) ?_
      exact x_iret C Wd hf dX0_total_49
    · replace hf := hf.2 hc
      refine lv_aload_n C.1 C.2.1 dX0_total_23 rfl (lv_at hl 0 rfl) ?_
      refine x_get_t C Wd dX0_total_24 ?_
      refine lv_iload_n C.1 C.2.1 dX0_total_27 rfl (lv_at hl 3 rfl) ?_
      refine x_ald_t C Wd hf.1 dX0_total_28 ?_
      replace hf := hf.2
      refine lv_iload_n C.1 C.2.1 dX0_total_29 rfl (lv_at hl 1 rfl) ?_
      refine lv_icmp_ne (tgt := 42) C.1 C.2.1 dX0_total_30 (by decide) (fun hc => ?_) (fun hc => ?_)
      · replace hf := hf.1 hc
        refine lv_iinc (v := v3 + 1) (lv' := [(3, .int (v3 + 1)), (0, .ref (x_h ad)), (1, .int v1), (2, .int v2)]) C.1 C.2.1 dX0_total_42 hl (k := 3) rfl rfl (by decide) rfl (fun ls hl => ?_)
        refine lv_goto (tgt := 15) C.1 C.2.1 dX0_total_45 (by decide) ?_
        exact ih _ _ _ _ _ _ _  Wd hf (lv_sub hl [1, 2, 3, 0] rfl)
      · replace hf := hf.2 hc
        refine lv_iload_n C.1 C.2.1 dX0_total_33 rfl (lv_at hl 2 rfl) ?_
        refine lv_aload_n C.1 C.2.1 dX0_total_34 rfl (lv_at hl 0 rfl) ?_
        refine x_get_z C Wd dX0_total_35 ?_
        refine lv_iload_n C.1 C.2.1 dX0_total_38 rfl (lv_at hl 3 rfl) ?_
        refine x_ald_z C Wd hf.1 dX0_total_39 ?_
        replace hf := hf.2
        refine lv_iadd C.1 C.2.1 dX0_total_40 ?_
        refine lv_istore_n (lv' := [(2, .int (v2 + (x_z σ v3.toNatClampNeg))), (0, .ref (x_h ad)), (1, .int v1), (3, .int v3)]) C.1 C.2.1 dX0_total_41 rfl hl (by decide) rfl (fun ls hl => ?_)
        refine lv_iinc (v := v3 + 1) (lv' := [(3, .int (v3 + 1)), (2, .int (v2 + (x_z σ v3.toNatClampNeg))), (0, .ref (x_h ad)), (1, .int v1)]) C.1 C.2.1 dX0_total_42 hl (k := 3) rfl rfl (by decide) rfl (fun ls hl => ?_)
        refine lv_goto (tgt := 15) C.1 C.2.1 dX0_total_45 (by decide) ?_
        exact ih _ _ _ _ _ _ _  Wd hf (lv_sub hl [2, 3, 1, 0] rfl)
theorem bX_total_15 {p : Program} {l : Launch} {e : Env} {s : State} {m : MethodId} {args : Array Value} {below : List Frame} {meth : Method} {c : Code} {D : va_G} {ad : XA} {A : Nat → Prop} (C : x_C p s m args meth c cX0_total 4 (some .int)) {post : Int32 → XS → Prop} {σ : XS} {H : Heap} {locs : List Loc} {ls : Array Slot} {v1 : Int32} {v2 : Int32} {v3 : Int32} (Wd : x_W D ad σ A s H locs) (hf : ∃ f : Nat, wX_total_15 (x_n ad) (x_lim ad) post f σ v1 v2 v3) (hl : lv_has ls 4 [(0, .ref (x_h ad)), (1, .int v1), (2, .int v2), (3, .int v3)]) : W p l e { frames := 0, cells := 0, slots := 0, locals := 0 } s m args below meth c H locs 0 0 (x_Qi below D ad A args s post) (F0 m 15 ls []) := by
  obtain ⟨f, hf⟩ := hf
  exact bX_total_15_f C f σ H locs ls v1 v2 v3 Wd hf hl
set_option maxHeartbeats 4000000 in
set_option maxRecDepth 100000 in
theorem cX_total (l : Launch) (D : va_G) (ad : XA) (v1 : Int32) : x_Mi l D yX0_total cX0_total 4 (some .int) { frames := 0, cells := 0, slots := 0, locals := 0 } ad [.ref (x_h ad), .int v1] (fun σ post => wX_total (x_n ad) (x_lim ad) σ v1 post) := by
  refine x_ofi ⟨by decide, rfl, Nat.le_of_ble_eq_true rfl⟩ (fun {p e s m args below meth c σ A post ls} C Wd hf hl => ?_)
  replace hl : lv_has ls 4 [(0, .ref (x_h ad)), (1, .int v1)] := hl
  refine lv_iload_n C.1 C.2.1 dX0_total_0 rfl (lv_at hl 1 rfl) ?_
  refine lv_if_lt (tgt := 9) C.1 C.2.1 dX0_total_1 (by decide) (fun hc => ?_) (fun hc => ?_)
  · replace hf := hf.1 hc
    refine lv_iconst (v := (-1)) C.1 C.2.1 dX0_total_9 (by decide) ?_
    exact x_iret C Wd hf dX0_total_10
  · replace hf := hf.2 hc
    refine lv_iload_n C.1 C.2.1 dX0_total_4 rfl (lv_at hl 1 rfl) ?_
    refine lv_iconst (v := 4) C.1 C.2.1 dX0_total_5 (by decide) ?_
    refine lv_icmp_le (tgt := 11) C.1 C.2.1 dX0_total_6 (by decide) (fun hc => ?_) (fun hc => ?_)
    · replace hf := hf.1 hc
      refine lv_iconst (v := 0) C.1 C.2.1 dX0_total_11 (by decide) ?_
      refine lv_istore_n (lv' := [(2, .int 0), (0, .ref (x_h ad)), (1, .int v1)]) C.1 C.2.1 dX0_total_12 rfl hl (by decide) rfl (fun ls hl => ?_)
      refine lv_iconst (v := 0) C.1 C.2.1 dX0_total_13 (by decide) ?_
      refine lv_istore_n (lv' := [(3, .int 0), (2, .int 0), (0, .ref (x_h ad)), (1, .int v1)]) C.1 C.2.1 dX0_total_14 rfl hl (by decide) rfl (fun ls hl => ?_)
      exact bX_total_15 C Wd hf (lv_sub hl [2, 3, 1, 0] rfl)
    · replace hf := hf.2 hc
      refine lv_iconst (v := (-1)) C.1 C.2.1 dX0_total_9 (by decide) ?_
      exact x_iret C Wd hf dX0_total_10
