set_option maxHeartbeats 4000000 in
set_option maxRecDepth 100000 in
theorem bX_takeSmall_41 {p : Program} {l : Launch} {e : Env} {s : State} {m : MethodId} {args : Array Value} {below : List Frame} {meth : Method} {c : Code} {D : va_G} {ad : XA} {A : Nat → Prop} (C : x_C p s m args meth c cX0_takeSmall 3 (some .int)) {post : Int32 → XS → Prop} {σ : XS} {H : Heap} {locs : List Loc} {ls : Array Slot} {v1 : Int32} {v2 : Int32} (Wd : x_W D ad σ A s H locs) (hf : wX_takeSmall_41 (x_n ad) (x_lim ad) σ v1 v2 post) (hl : lv_has ls 3 [(0, .ref (x_h ad)), (1, .int v1), (2, .int v2)]) : W p l e { frames := 3, cells := 0, slots := 0, locals := 71 } s m args below meth c H locs 0 0 (x_Qi below D ad A args s post) (F0 m 41 ls []) := by
  refine lv_aload_n C.1 C.2.1 dX0_takeSmall_41 rfl (lv_at hl 0 rfl) ?_
  refine lv_aload_n C.1 C.2.1 dX0_takeSmall_42 rfl (lv_at hl 0 rfl) ?_
  refine x_get_vi C Wd dX0_takeSmall_43 ?_
  refine x_calliv (As := [.int (x_vi σ)]) (rest := []) C Wd (cX_sizeAt l D ad (x_vi σ)) sX_sizeAt (by decide) rfl hl.1 rfl (Nat.le_of_ble_eq_true rfl) (by decide) dX0_takeSmall_46 hf (fun r46 σ46 H locs hf Wd => ?_)
  refine lv_iload_n C.1 C.2.1 dX0_takeSmall_49 rfl (lv_at hl 1 rfl) ?_
  refine lv_icmp_lt (tgt := 64) C.1 C.2.1 dX0_takeSmall_50 (by decide) (fun hc => ?_) (fun hc => ?_)
  · replace hf := hf.1 hc
    refine lv_iload_n C.1 C.2.1 dX0_takeSmall_64 rfl (lv_at hl 2 rfl) ?_
    refine lv_iconst (v := (-1)) C.1 C.2.1 dX0_takeSmall_65 (by decide) ?_
    refine lv_icmp_ne (tgt := 73) C.1 C.2.1 dX0_takeSmall_66 (by decide) (fun hc => ?_) (fun hc => ?_)
    · replace hf := hf.1 hc
      refine lv_aload_n C.1 C.2.1 dX0_takeSmall_73 rfl (lv_at hl 0 rfl) ?_
      refine lv_iload_n C.1 C.2.1 dX0_takeSmall_74 rfl (lv_at hl 2 rfl) ?_
      refine lv_iload_n C.1 C.2.1 dX0_takeSmall_75 rfl (lv_at hl 1 rfl) ?_
      refine x_calliv (As := [.int v2, .int v1]) (rest := []) C Wd (cX_cutForVictim l D ad v2 v1) sX_cutForVictim (by decide) rfl hl.1 rfl (Nat.le_of_ble_eq_true rfl) (by decide) dX0_takeSmall_76 hf (fun r76 σ76 H locs hf Wd => ?_)
      exact x_iret C Wd hf dX0_takeSmall_79
    · replace hf := hf.2 hc
      refine lv_iconst (v := (-1)) C.1 C.2.1 dX0_takeSmall_69 (by decide) ?_
      refine lv_goto (tgt := 79) C.1 C.2.1 dX0_takeSmall_70 (by decide) ?_
      exact x_iret C Wd hf dX0_takeSmall_79
  · replace hf := hf.2 hc
    refine lv_aload_n C.1 C.2.1 dX0_takeSmall_53 rfl (lv_at hl 0 rfl) ?_
    refine lv_aload_n C.1 C.2.1 dX0_takeSmall_54 rfl (lv_at hl 0 rfl) ?_
    refine x_get_vi C Wd dX0_takeSmall_55 ?_
    refine lv_iload_n C.1 C.2.1 dX0_takeSmall_58 rfl (lv_at hl 1 rfl) ?_
    refine lv_iconst (v := 3) C.1 C.2.1 dX0_takeSmall_59 (by decide) ?_
    refine x_calliv (As := [.int (x_vi σ46), .int v1, .int 3]) (rest := []) C Wd (cX_cut l D ad (x_vi σ46) v1 3) sX_cut (by decide) rfl hl.1 rfl (Nat.le_of_ble_eq_true rfl) (by decide) dX0_takeSmall_60 hf (fun r60 σ60 H locs hf Wd => ?_)
    exact x_iret C Wd hf dX0_takeSmall_63
set_option maxHeartbeats 4000000 in
set_option maxRecDepth 100000 in
theorem cX_takeSmall (l : Launch) (D : va_G) (ad : XA) (v1 : Int32) : x_Mi l D yX0_takeSmall cX0_takeSmall 3 (some .int) { frames := 3, cells := 0, slots := 0, locals := 71 } ad [.ref (x_h ad), .int v1] (fun σ post => wX_takeSmall (x_n ad) (x_lim ad) σ v1 post) := by
  refine x_ofi ⟨by decide, rfl, Nat.le_of_ble_eq_true rfl⟩ (fun {p e s m args below meth c σ A post ls} C Wd hf hl => ?_)
  replace hl : lv_has ls 3 [(0, .ref (x_h ad)), (1, .int v1)] := hl
  refine lv_aload_n C.1 C.2.1 dX0_takeSmall_0 rfl (lv_at hl 0 rfl) ?_
  refine lv_iload_n C.1 C.2.1 dX0_takeSmall_1 rfl (lv_at hl 1 rfl) ?_
  refine x_calliv (As := [.int v1]) (rest := []) C Wd (cX_bestStored l D ad v1) sX_bestStored (by decide) rfl hl.1 rfl (Nat.le_of_ble_eq_true rfl) (by decide) dX0_takeSmall_2 hf (fun r2 σ2 H locs hf Wd => ?_)
  refine lv_istore_n (lv' := [(2, .int r2), (0, .ref (x_h ad)), (1, .int v1)]) C.1 C.2.1 dX0_takeSmall_5 rfl hl (by decide) rfl (fun ls hl => ?_)
  refine lv_iload_n C.1 C.2.1 dX0_takeSmall_6 rfl (lv_at hl 0 rfl) ?_
  refine lv_iconst (v := (-1)) C.1 C.2.1 dX0_takeSmall_7 (by decide) ?_
  refine lv_icmp_eq (tgt := 41) C.1 C.2.1 dX0_takeSmall_8 (by decide) (fun hc => ?_) (fun hc => ?_)
  · replace hf := hf.1 hc
    exact bX_takeSmall_41 C Wd hf (lv_sub hl [1, 2, 0] rfl)
  · replace hf := hf.2 hc
    refine lv_aload_n C.1 C.2.1 dX0_takeSmall_11 rfl (lv_at hl 1 rfl) ?_
    refine x_get_t C Wd dX0_takeSmall_12 ?_
    refine lv_iload_n C.1 C.2.1 dX0_takeSmall_15 rfl (lv_at hl 0 rfl) ?_
    refine x_ald_t C Wd hf.1 dX0_takeSmall_16 ?_
    replace hf := hf.2
    refine lv_iconst (v := 1) C.1 C.2.1 dX0_takeSmall_17 (by decide) ?_
    refine lv_icmp_ne (tgt := 41) C.1 C.2.1 dX0_takeSmall_18 (by decide) (fun hc => ?_) (fun hc => ?_)
    · replace hf := hf.1 hc
      exact bX_takeSmall_41 C Wd hf (lv_sub hl [1, 2, 0] rfl)
    · replace hf := hf.2 hc
      refine lv_aload_n C.1 C.2.1 dX0_takeSmall_21 rfl (lv_at hl 1 rfl) ?_
      refine x_get_z C Wd dX0_takeSmall_22 ?_
      refine lv_iload_n C.1 C.2.1 dX0_takeSmall_25 rfl (lv_at hl 0 rfl) ?_
      refine x_ald_z C Wd hf.1 dX0_takeSmall_26 ?_
      replace hf := hf.2
      refine lv_iload_n C.1 C.2.1 dX0_takeSmall_27 rfl (lv_at hl 2 rfl) ?_
      refine lv_isub C.1 C.2.1 dX0_takeSmall_28 ?_
      refine lv_iconst (v := 2) C.1 C.2.1 dX0_takeSmall_29 (by decide) ?_
      refine lv_icmp_ge (tgt := 41) C.1 C.2.1 dX0_takeSmall_30 (by decide) (fun hc => ?_) (fun hc => ?_)
      · replace hf := hf.1 hc
        exact bX_takeSmall_41 C Wd hf (lv_sub hl [1, 2, 0] rfl)
      · replace hf := hf.2 hc
        refine lv_aload_n C.1 C.2.1 dX0_takeSmall_33 rfl (lv_at hl 1 rfl) ?_
        refine lv_iload_n C.1 C.2.1 dX0_takeSmall_34 rfl (lv_at hl 0 rfl) ?_
        refine lv_iload_n C.1 C.2.1 dX0_takeSmall_35 rfl (lv_at hl 2 rfl) ?_
        refine lv_iconst (v := 2) C.1 C.2.1 dX0_takeSmall_36 (by decide) ?_
        refine x_calliv (As := [.int r2, .int v1, .int 2]) (rest := []) C Wd (cX_cut l D ad r2 v1 2) sX_cut (by decide) rfl hl.1 rfl (Nat.le_of_ble_eq_true rfl) (by decide) dX0_takeSmall_37 hf (fun r37 σ37 H locs hf Wd => ?_)
        exact x_iret C Wd hf dX0_takeSmall_40
set_option maxHeartbeats 4000000 in
set_option maxRecDepth 100000 in
theorem bX_takeLarge_59 {p : Program} {l : Launch} {e : Env} {s : State} {m : MethodId} {args : Array Value} {below : List Frame} {meth : Method} {c : Code} {D : va_G} {ad : XA} {A : Nat → Prop} (C : x_C p s m args meth c cX0_takeLarge 4 (some .int)) {post : Int32 → XS → Prop} {σ : XS} {H : Heap} {locs : List Loc} {ls : Array Slot} {v1 : Int32} {v3 : Int32} (Wd : x_W D ad σ A s H locs) (hf : wX_takeLarge_59 (x_n ad) (x_lim ad) σ v1 v3 post) (hl : lv_has ls 4 [(0, .ref (x_h ad)), (1, .int v1), (3, .int v3)]) : W p l e { frames := 2, cells := 0, slots := 0, locals := 48 } s m args below meth c H locs 0 0 (x_Qi below D ad A args s post) (F0 m 59 ls []) := by
  refine lv_iload_n C.1 C.2.1 dX0_takeLarge_59 rfl (lv_at hl 2 rfl) ?_
  refine lv_if_eq (tgt := 76) C.1 C.2.1 dX0_takeLarge_60 (by decide) (fun hc => ?_) (fun hc => ?_)
  · replace hf := hf.1 hc
    refine lv_iconst (v := (-1)) C.1 C.2.1 dX0_takeLarge_76 (by decide) ?_
    exact x_iret C Wd hf dX0_takeLarge_77
  · replace hf := hf.2 hc
    refine lv_aload_n C.1 C.2.1 dX0_takeLarge_63 rfl (lv_at hl 0 rfl) ?_
    refine lv_aload_n C.1 C.2.1 dX0_takeLarge_64 rfl (lv_at hl 0 rfl) ?_
    refine x_get_vi C Wd dX0_takeLarge_65 ?_
    refine lv_iload_n C.1 C.2.1 dX0_takeLarge_68 rfl (lv_at hl 1 rfl) ?_
    refine lv_iconst (v := 3) C.1 C.2.1 dX0_takeLarge_69 (by decide) ?_
    refine x_calliv (As := [.int (x_vi σ), .int v1, .int 3]) (rest := []) C Wd (cX_cut l D ad (x_vi σ) v1 3) sX_cut (by decide) rfl hl.1 rfl (Nat.le_of_ble_eq_true rfl) (by decide) dX0_takeLarge_70 hf (fun r70 σ70 H locs hf Wd => ?_)
    refine lv_goto (tgt := 77) C.1 C.2.1 dX0_takeLarge_73 (by decide) ?_
    exact x_iret C Wd hf dX0_takeLarge_77
set_option maxHeartbeats 4000000 in
set_option maxRecDepth 100000 in
theorem bX_takeLarge_51 {p : Program} {l : Launch} {e : Env} {s : State} {m : MethodId} {args : Array Value} {below : List Frame} {meth : Method} {c : Code} {D : va_G} {ad : XA} {A : Nat → Prop} (C : x_C p s m args meth c cX0_takeLarge 4 (some .int)) {post : Int32 → XS → Prop} {σ : XS} {H : Heap} {locs : List Loc} {ls : Array Slot} {v1 : Int32} {v2 : Int32} (Wd : x_W D ad σ A s H locs) (hf : wX_takeLarge_51 (x_n ad) (x_lim ad) σ v1 v2 post) (hl : lv_has ls 4 [(0, .ref (x_h ad)), (1, .int v1), (2, .int v2)]) : W p l e { frames := 2, cells := 0, slots := 0, locals := 48 } s m args below meth c H locs 0 0 (x_Qi below D ad A args s post) (F0 m 51 ls []) := by
  refine lv_aload_n C.1 C.2.1 dX0_takeLarge_51 rfl (lv_at hl 0 rfl) ?_
  refine lv_iload_n C.1 C.2.1 dX0_takeLarge_52 rfl (lv_at hl 2 rfl) ?_
  refine lv_iload_n C.1 C.2.1 dX0_takeLarge_53 rfl (lv_at hl 1 rfl) ?_
  refine lv_iconst (v := 2) C.1 C.2.1 dX0_takeLarge_54 (by decide) ?_
  refine x_calliv (As := [.int v2, .int v1, .int 2]) (rest := []) C Wd (cX_cut l D ad v2 v1 2) sX_cut (by decide) rfl hl.1 rfl (Nat.le_of_ble_eq_true rfl) (by decide) dX0_takeLarge_55 hf (fun r55 σ55 H locs hf Wd => ?_)
  exact x_iret C Wd hf dX0_takeLarge_58
set_option maxHeartbeats 4000000 in
set_option maxRecDepth 100000 in
theorem bX_takeLarge_23 {p : Program} {l : Launch} {e : Env} {s : State} {m : MethodId} {args : Array Value} {below : List Frame} {meth : Method} {c : Code} {D : va_G} {ad : XA} {A : Nat → Prop} (C : x_C p s m args meth c cX0_takeLarge 4 (some .int)) {post : Int32 → XS → Prop} {σ : XS} {H : Heap} {locs : List Loc} {ls : Array Slot} {v1 : Int32} {v2 : Int32} {k0 : Int32} (Wd : x_W D ad σ A s H locs) (hf : wX_takeLarge_23 (x_n ad) (x_lim ad) σ v1 v2 k0 post) (hl : lv_has ls 4 [(0, .ref (x_h ad)), (1, .int v1), (2, .int v2)]) : W p l e { frames := 2, cells := 0, slots := 0, locals := 48 } s m args below meth c H locs 0 0 (x_Qi below D ad A args s post) (F0 m 23 ls [.int k0]) := by
  refine lv_istore_n (lv' := [(3, .int k0), (0, .ref (x_h ad)), (1, .int v1), (2, .int v2)]) C.1 C.2.1 dX0_takeLarge_23 rfl hl (by decide) rfl (fun ls hl => ?_)
  refine lv_iload_n C.1 C.2.1 dX0_takeLarge_24 rfl (lv_at hl 3 rfl) ?_
  refine lv_iconst (v := (-1)) C.1 C.2.1 dX0_takeLarge_25 (by decide) ?_
  refine lv_icmp_eq (tgt := 59) C.1 C.2.1 dX0_takeLarge_26 (by decide) (fun hc => ?_) (fun hc => ?_)
  · replace hf := hf.1 hc
    exact bX_takeLarge_59 C Wd hf (lv_sub hl [1, 2, 0] rfl)
  · replace hf := hf.2 hc
    refine lv_iload_n C.1 C.2.1 dX0_takeLarge_29 rfl (lv_at hl 0 rfl) ?_
    refine lv_if_eq (tgt := 51) C.1 C.2.1 dX0_takeLarge_30 (by decide) (fun hc => ?_) (fun hc => ?_)
    · replace hf := hf.1 hc
      exact bX_takeLarge_51 C Wd hf (lv_sub hl [1, 2, 3] rfl)
    · replace hf := hf.2 hc
      refine lv_aload_n C.1 C.2.1 dX0_takeLarge_33 rfl (lv_at hl 1 rfl) ?_
      refine x_get_z C Wd dX0_takeLarge_34 ?_
      refine lv_iload_n C.1 C.2.1 dX0_takeLarge_37 rfl (lv_at hl 3 rfl) ?_
      refine x_ald_z C Wd hf.1 dX0_takeLarge_38 ?_
      replace hf := hf.2
      refine lv_aload_n C.1 C.2.1 dX0_takeLarge_39 rfl (lv_at hl 1 rfl) ?_
      refine x_get_z C Wd dX0_takeLarge_40 ?_
      refine lv_aload_n C.1 C.2.1 dX0_takeLarge_43 rfl (lv_at hl 1 rfl) ?_
      refine x_get_vi C Wd dX0_takeLarge_44 ?_
      refine x_ald_z C Wd hf.1 dX0_takeLarge_47 ?_
      replace hf := hf.2
      refine lv_icmp_ge (tgt := 59) C.1 C.2.1 dX0_takeLarge_48 (by decide) (fun hc => ?_) (fun hc => ?_)
      · replace hf := hf.1 hc
        exact bX_takeLarge_59 C Wd hf (lv_sub hl [1, 2, 0] rfl)
      · replace hf := hf.2 hc
        exact bX_takeLarge_51 C Wd hf (lv_sub hl [1, 2, 3] rfl)
set_option maxHeartbeats 4000000 in
set_option maxRecDepth 100000 in
theorem cX_takeLarge (l : Launch) (D : va_G) (ad : XA) (v1 : Int32) : x_Mi l D yX0_takeLarge cX0_takeLarge 4 (some .int) { frames := 2, cells := 0, slots := 0, locals := 48 } ad [.ref (x_h ad), .int v1] (fun σ post => wX_takeLarge (x_n ad) (x_lim ad) σ v1 post) := by
  refine x_ofi ⟨by decide, rfl, Nat.le_of_ble_eq_true rfl⟩ (fun {p e s m args below meth c σ A post ls} C Wd hf hl => ?_)
  replace hl : lv_has ls 4 [(0, .ref (x_h ad)), (1, .int v1)] := hl
  refine lv_aload_n C.1 C.2.1 dX0_takeLarge_0 rfl (lv_at hl 0 rfl) ?_
  refine lv_iload_n C.1 C.2.1 dX0_takeLarge_1 rfl (lv_at hl 1 rfl) ?_
  refine x_calliv (As := [.int v1]) (rest := []) C Wd (cX_bestStored l D ad v1) sX_bestStored (by decide) rfl hl.1 rfl (Nat.le_of_ble_eq_true rfl) (by decide) dX0_takeLarge_2 hf (fun r2 σ2 H locs hf Wd => ?_)
  refine lv_istore_n (lv' := [(2, .int r2), (0, .ref (x_h ad)), (1, .int v1)]) C.1 C.2.1 dX0_takeLarge_5 rfl hl (by decide) rfl (fun ls hl => ?_)
  refine lv_aload_n C.1 C.2.1 dX0_takeLarge_6 rfl (lv_at hl 1 rfl) ?_
  refine lv_aload_n C.1 C.2.1 dX0_takeLarge_7 rfl (lv_at hl 1 rfl) ?_
  refine x_get_vi C Wd dX0_takeLarge_8 ?_
  refine x_calliv (As := [.int (x_vi σ2)]) (rest := []) C Wd (cX_sizeAt l D ad (x_vi σ2)) sX_sizeAt (by decide) rfl hl.1 rfl (Nat.le_of_ble_eq_true rfl) (by decide) dX0_takeLarge_11 hf (fun r11 σ11 H locs hf Wd => ?_)
  refine lv_iload_n C.1 C.2.1 dX0_takeLarge_14 rfl (lv_at hl 2 rfl) ?_
  refine lv_icmp_lt (tgt := 22) C.1 C.2.1 dX0_takeLarge_15 (by decide) (fun hc => ?_) (fun hc => ?_)
  · replace hf := hf.1 hc
    refine lv_iconst (v := 0) C.1 C.2.1 dX0_takeLarge_22 (by decide) ?_
    exact bX_takeLarge_23 C Wd hf (lv_sub hl [1, 2, 0] rfl)
  · replace hf := hf.2 hc
    refine lv_iconst (v := 1) C.1 C.2.1 dX0_takeLarge_18 (by decide) ?_
    refine lv_goto (tgt := 23) C.1 C.2.1 dX0_takeLarge_19 (by decide) ?_
    exact bX_takeLarge_23 C Wd hf (lv_sub hl [1, 2, 0] rfl)
set_option maxHeartbeats 4000000 in
set_option maxRecDepth 100000 in
theorem bX_grow_47 {p : Program} {l : Launch} {e : Env} {s : State} {m : MethodId} {args : Array Value} {below : List Frame} {meth : Method} {c : Code} {D : va_G} {ad : XA} {A : Nat → Prop} (C : x_C p s m args meth c cX0_grow 5 (some .boolean)) {post : Int32 → XS → Prop} {σ : XS} {H : Heap} {locs : List Loc} {ls : Array Slot} {v2 : Int32} {k0 : Int32} (Wd : x_W D ad σ A s H locs) (hf : wX_grow_47 (x_n ad) (x_lim ad) σ v2 k0 post) (hl : lv_has ls 5 [(0, .ref (x_h ad)), (2, .int v2)]) : W p l e { frames := 2, cells := 0, slots := 0, locals := 70 } s m args below meth c H locs 0 0 (x_Qi below D ad A args s post) (F0 m 47 ls [.int k0]) := by
  refine lv_istore_n (lv' := [(3, .int k0), (0, .ref (x_h ad)), (2, .int v2)]) C.1 C.2.1 dX0_grow_47 rfl hl (by decide) rfl (fun ls hl => ?_)
  refine lv_aload_n C.1 C.2.1 dX0_grow_48 rfl (lv_at hl 1 rfl) ?_
  refine lv_aload_n C.1 C.2.1 dX0_grow_49 rfl (lv_at hl 1 rfl) ?_
  refine x_get_tp C Wd dX0_grow_50 ?_
  refine x_calliv (As := [.int (x_tp σ)]) (rest := []) C Wd (cX_sizeAt l D ad (x_tp σ)) sX_sizeAt (by decide) rfl hl.1 rfl (Nat.le_of_ble_eq_true rfl) (by decide) dX0_grow_53 hf (fun r53 σ53 H locs hf Wd => ?_)
  refine lv_iload_n C.1 C.2.1 dX0_grow_56 rfl (lv_at hl 2 rfl) ?_
  refine lv_iadd C.1 C.2.1 dX0_grow_57 ?_
  refine lv_istore (lv' := [(4, .int (r53 + v2)), (3, .int k0), (0, .ref (x_h ad)), (2, .int v2)]) C.1 C.2.1 dX0_grow_58 hl (by decide) rfl (fun ls hl => ?_)
  refine lv_aload_n C.1 C.2.1 dX0_grow_60 rfl (lv_at hl 2 rfl) ?_
  refine x_get_u C Wd dX0_grow_61 ?_
  refine lv_aload_n C.1 C.2.1 dX0_grow_64 rfl (lv_at hl 2 rfl) ?_
  refine x_get_en C Wd dX0_grow_65 ?_
  refine lv_aload_n C.1 C.2.1 dX0_grow_68 rfl (lv_at hl 2 rfl) ?_
  refine x_get_en C Wd dX0_grow_69 ?_
  refine lv_iload_n C.1 C.2.1 dX0_grow_72 rfl (lv_at hl 3 rfl) ?_
  refine lv_iadd C.1 C.2.1 dX0_grow_73 ?_
  refine lv_iconst (v := 0) C.1 C.2.1 dX0_grow_74 (by decide) ?_
  refine x_fillr_u (rest := []) C Wd hf.1 hl.1 (Nat.le_of_ble_eq_true rfl) (by decide) dX0_grow_75 (fun H locs Wd => ?_)
  replace hf := hf.2
  refine lv_aload_n C.1 C.2.1 dX0_grow_78 rfl (lv_at hl 2 rfl) ?_
  refine lv_dup C.1 C.2.1 dX0_grow_79 rfl ?_
  refine x_get_en C Wd dX0_grow_80 ?_
  refine lv_iload_n C.1 C.2.1 dX0_grow_83 rfl (lv_at hl 3 rfl) ?_
  refine lv_iadd C.1 C.2.1 dX0_grow_84 ?_
  refine x_put_en C Wd dX0_grow_85 (fun H locs Wd => ?_)
  refine lv_aload_n C.1 C.2.1 dX0_grow_88 rfl (lv_at hl 2 rfl) ?_
  refine lv_iload_n C.1 C.2.1 dX0_grow_89 rfl (lv_at hl 1 rfl) ?_
  refine lv_iload C.1 C.2.1 dX0_grow_90 (lv_at hl 0 rfl) ?_
  refine lv_iconst (v := 4) C.1 C.2.1 dX0_grow_92 (by decide) ?_
  refine x_callvv (As := [.int k0, .int (r53 + v2), .int 4]) (rest := []) C Wd (cX_lay l D ad k0 (r53 + v2) 4) sX_lay (by decide) rfl hl.1 rfl (Nat.le_of_ble_eq_true rfl) (by decide) dX0_grow_93 hf (fun σ93 H locs hf Wd => ?_)
  refine lv_iconst (v := 1) C.1 C.2.1 dX0_grow_96 (by decide) ?_
  exact x_zret C Wd (by decide) hf dX0_grow_97
set_option maxHeartbeats 4000000 in
set_option maxRecDepth 100000 in
theorem cX_grow (l : Launch) (D : va_G) (ad : XA) (v1 : Int32) : x_Mi l D yX0_grow cX0_grow 5 (some .boolean) { frames := 2, cells := 0, slots := 0, locals := 70 } ad [.ref (x_h ad), .int v1] (fun σ post => wX_grow (x_n ad) (x_lim ad) σ v1 post) := by
  refine x_ofi ⟨by decide, rfl, Nat.le_of_ble_eq_true rfl⟩ (fun {p e s m args below meth c σ A post ls} C Wd hf hl => ?_)
  replace hl : lv_has ls 5 [(0, .ref (x_h ad)), (1, .int v1)] := hl
  refine lv_iload_n C.1 C.2.1 dX0_grow_0 rfl (lv_at hl 1 rfl) ?_
  refine lv_bipush (v := 16) C.1 C.2.1 dX0_grow_1 (by decide) ?_
  refine lv_iadd C.1 C.2.1 dX0_grow_3 ?_
  refine lv_iconst (v := 1) C.1 C.2.1 dX0_grow_4 (by decide) ?_
  refine lv_isub C.1 C.2.1 dX0_grow_5 ?_
  refine lv_bipush (v := 16) C.1 C.2.1 dX0_grow_6 (by decide) ?_
  refine lv_idiv C.1 C.2.1 dX0_grow_8 (by decide) ?_
  refine lv_bipush (v := 16) C.1 C.2.1 dX0_grow_9 (by decide) ?_
  refine lv_imul C.1 C.2.1 dX0_grow_11 ?_
  refine lv_istore_n (lv' := [(2, .int ((((v1 + 16) - 1) / 16) * 16)), (0, .ref (x_h ad)), (1, .int v1)]) C.1 C.2.1 dX0_grow_12 rfl hl (by decide) rfl (fun ls hl => ?_)
  refine lv_aload_n C.1 C.2.1 dX0_grow_13 rfl (lv_at hl 1 rfl) ?_
  refine x_get_en C Wd dX0_grow_14 ?_
  refine lv_iload_n C.1 C.2.1 dX0_grow_17 rfl (lv_at hl 0 rfl) ?_
  refine lv_iadd C.1 C.2.1 dX0_grow_18 ?_
  refine lv_aload_n C.1 C.2.1 dX0_grow_19 rfl (lv_at hl 1 rfl) ?_
  refine x_get_lim C Wd dX0_grow_20 ?_
  refine lv_icmp_le (tgt := 28) C.1 C.2.1 dX0_grow_23 (by decide) (fun hc => ?_) (fun hc => ?_)
  · replace hf := hf.1 hc
    refine lv_aload_n C.1 C.2.1 dX0_grow_28 rfl (lv_at hl 1 rfl) ?_
    refine x_get_tp C Wd dX0_grow_29 ?_
    refine lv_iconst (v := (-1)) C.1 C.2.1 dX0_grow_32 (by decide) ?_
    refine lv_icmp_ne (tgt := 43) C.1 C.2.1 dX0_grow_33 (by decide) (fun hc => ?_) (fun hc => ?_)
    · replace hf := hf.1 hc
      refine lv_aload_n C.1 C.2.1 dX0_grow_43 rfl (lv_at hl 1 rfl) ?_
      refine x_get_tp C Wd dX0_grow_44 ?_
      exact bX_grow_47 C Wd hf (lv_sub hl [1, 0] rfl)
    · replace hf := hf.2 hc
      refine lv_aload_n C.1 C.2.1 dX0_grow_36 rfl (lv_at hl 1 rfl) ?_
      refine x_get_en C Wd dX0_grow_37 ?_
      refine lv_goto (tgt := 47) C.1 C.2.1 dX0_grow_40 (by decide) ?_
      exact bX_grow_47 C Wd hf (lv_sub hl [1, 0] rfl)
  · replace hf := hf.2 hc
    refine lv_iconst (v := 0) C.1 C.2.1 dX0_grow_26 (by decide) ?_
    exact x_zret C Wd (by decide) hf dX0_grow_27
set_option maxHeartbeats 4000000 in
set_option maxRecDepth 100000 in
theorem bX_takeFromTop_25 {p : Program} {l : Launch} {e : Env} {s : State} {m : MethodId} {args : Array Value} {below : List Frame} {meth : Method} {c : Code} {D : va_G} {ad : XA} {A : Nat → Prop} (C : x_C p s m args meth c cX0_takeFromTop 3 (some .int)) {post : Int32 → XS → Prop} {σ : XS} {H : Heap} {locs : List Loc} {ls : Array Slot} {v1 : Int32} (Wd : x_W D ad σ A s H locs) (hf : wX_takeFromTop_25 (x_n ad) (x_lim ad) σ v1 post) (hl : lv_has ls 3 [(0, .ref (x_h ad)), (1, .int v1)]) : W p l e { frames := 3, cells := 0, slots := 0, locals := 94 } s m args below meth c H locs 0 0 (x_Qi below D ad A args s post) (F0 m 25 ls []) := by
  refine lv_aload_n C.1 C.2.1 dX0_takeFromTop_25 rfl (lv_at hl 0 rfl) ?_
  refine lv_aload_n C.1 C.2.1 dX0_takeFromTop_26 rfl (lv_at hl 0 rfl) ?_
  refine x_get_tp C Wd dX0_takeFromTop_27 ?_
  refine lv_iload_n C.1 C.2.1 dX0_takeFromTop_30 rfl (lv_at hl 1 rfl) ?_
  refine lv_iconst (v := 4) C.1 C.2.1 dX0_takeFromTop_31 (by decide) ?_
  refine x_calliv (As := [.int (x_tp σ), .int v1, .int 4]) (rest := []) C Wd (cX_cut l D ad (x_tp σ) v1 4) sX_cut (by decide) rfl hl.1 rfl (Nat.le_of_ble_eq_true rfl) (by decide) dX0_takeFromTop_32 hf (fun r32 σ32 H locs hf Wd => ?_)
  exact x_iret C Wd hf dX0_takeFromTop_35
set_option maxHeartbeats 4000000 in
set_option maxRecDepth 100000 in
theorem cX_takeFromTop (l : Launch) (D : va_G) (ad : XA) (v1 : Int32) : x_Mi l D yX0_takeFromTop cX0_takeFromTop 3 (some .int) { frames := 3, cells := 0, slots := 0, locals := 94 } ad [.ref (x_h ad), .int v1] (fun σ post => wX_takeFromTop (x_n ad) (x_lim ad) σ v1 post) := by
  refine x_ofi ⟨by decide, rfl, Nat.le_of_ble_eq_true rfl⟩ (fun {p e s m args below meth c σ A post ls} C Wd hf hl => ?_)
  replace hl : lv_has ls 3 [(0, .ref (x_h ad)), (1, .int v1)] := hl
  refine lv_iload_n C.1 C.2.1 dX0_takeFromTop_0 rfl (lv_at hl 1 rfl) ?_
  refine lv_aload_n C.1 C.2.1 dX0_takeFromTop_1 rfl (lv_at hl 0 rfl) ?_
  refine lv_aload_n C.1 C.2.1 dX0_takeFromTop_2 rfl (lv_at hl 0 rfl) ?_
  refine x_get_tp C Wd dX0_takeFromTop_3 ?_
  refine x_calliv (As := [.int (x_tp σ)]) (rest := [.int v1]) C Wd (cX_sizeAt l D ad (x_tp σ)) sX_sizeAt (by decide) rfl hl.1 rfl (Nat.le_of_ble_eq_true rfl) (by decide) dX0_takeFromTop_6 hf (fun r6 σ6 H locs hf Wd => ?_)
  refine lv_isub C.1 C.2.1 dX0_takeFromTop_9 ?_
  refine lv_istore_n (lv' := [(2, .int (v1 - r6)), (0, .ref (x_h ad)), (1, .int v1)]) C.1 C.2.1 dX0_takeFromTop_10 rfl hl (by decide) rfl (fun ls hl => ?_)
  refine lv_iload_n C.1 C.2.1 dX0_takeFromTop_11 rfl (lv_at hl 0 rfl) ?_
  refine lv_if_le (tgt := 25) C.1 C.2.1 dX0_takeFromTop_12 (by decide) (fun hc => ?_) (fun hc => ?_)
  · replace hf := hf.1 hc
    exact bX_takeFromTop_25 C Wd hf (lv_sub hl [1, 2] rfl)
  · replace hf := hf.2 hc
    refine lv_aload_n C.1 C.2.1 dX0_takeFromTop_15 rfl (lv_at hl 1 rfl) ?_
    refine lv_iload_n C.1 C.2.1 dX0_takeFromTop_16 rfl (lv_at hl 0 rfl) ?_
    refine x_calliv (As := [.int (v1 - r6)]) (rest := []) C Wd (cX_grow l D ad (v1 - r6)) sX_grow (by decide) rfl hl.1 rfl (Nat.le_of_ble_eq_true rfl) (by decide) dX0_takeFromTop_17 hf (fun r17 σ17 H locs hf Wd => ?_)
    refine lv_if_ne (tgt := 25) C.1 C.2.1 dX0_takeFromTop_20 (by decide) (fun hc => ?_) (fun hc => ?_)
    · replace hf := hf.1 hc
      exact bX_takeFromTop_25 C Wd hf (lv_sub hl [1, 2] rfl)
    · replace hf := hf.2 hc
      refine lv_iconst (v := (-1)) C.1 C.2.1 dX0_takeFromTop_23 (by decide) ?_
      exact x_iret C Wd hf dX0_takeFromTop_24
set_option maxHeartbeats 4000000 in
set_option maxRecDepth 100000 in
theorem bX_take_19 {p : Program} {l : Launch} {e : Env} {s : State} {m : MethodId} {args : Array Value} {below : List Frame} {meth : Method} {c : Code} {D : va_G} {ad : XA} {A : Nat → Prop} (C : x_C p s m args meth c cX0_take 3 (some .int)) {post : Int32 → XS → Prop} {σ : XS} {H : Heap} {locs : List Loc} {ls : Array Slot} {v1 : Int32} {k0 : Int32} (Wd : x_W D ad σ A s H locs) (hf : wX_take_19 (x_n ad) (x_lim ad) σ v1 k0 post) (hl : lv_has ls 3 [(0, .ref (x_h ad)), (1, .int v1)]) : W p l e { frames := 4, cells := 0, slots := 0, locals := 116 } s m args below meth c H locs 0 0 (x_Qi below D ad A args s post) (F0 m 19 ls [.int k0]) := by
  refine lv_istore_n (lv' := [(2, .int k0), (0, .ref (x_h ad)), (1, .int v1)]) C.1 C.2.1 dX0_take_19 rfl hl (by decide) rfl (fun ls hl => ?_)
  refine lv_iload_n C.1 C.2.1 dX0_take_20 rfl (lv_at hl 0 rfl) ?_
  refine lv_iconst (v := (-1)) C.1 C.2.1 dX0_take_21 (by decide) ?_
  refine lv_icmp_eq (tgt := 29) C.1 C.2.1 dX0_take_22 (by decide) (fun hc => ?_) (fun hc => ?_)
  · replace hf := hf.1 hc
    refine lv_aload_n C.1 C.2.1 dX0_take_29 rfl (lv_at hl 1 rfl) ?_
    refine lv_iload_n C.1 C.2.1 dX0_take_30 rfl (lv_at hl 2 rfl) ?_
    refine x_calliv (As := [.int v1]) (rest := []) C Wd (cX_takeFromTop l D ad v1) sX_takeFromTop (by decide) rfl hl.1 rfl (Nat.le_of_ble_eq_true rfl) (by decide) dX0_take_31 hf (fun r31 σ31 H locs hf Wd => ?_)
    exact x_iret C Wd hf dX0_take_34
  · replace hf := hf.2 hc
    refine lv_iload_n C.1 C.2.1 dX0_take_25 rfl (lv_at hl 0 rfl) ?_
    refine lv_goto (tgt := 34) C.1 C.2.1 dX0_take_26 (by decide) ?_
    exact x_iret C Wd hf dX0_take_34
set_option maxHeartbeats 4000000 in
set_option maxRecDepth 100000 in
theorem cX_take (l : Launch) (D : va_G) (ad : XA) (v1 : Int32) : x_Mi l D yX0_take cX0_take 3 (some .int) { frames := 4, cells := 0, slots := 0, locals := 116 } ad [.ref (x_h ad), .int v1] (fun σ post => wX_take (x_n ad) (x_lim ad) σ v1 post) := by
  refine x_ofi ⟨by decide, rfl, Nat.le_of_ble_eq_true rfl⟩ (fun {p e s m args below meth c σ A post ls} C Wd hf hl => ?_)
  replace hl : lv_has ls 3 [(0, .ref (x_h ad)), (1, .int v1)] := hl
  refine lv_iload_n C.1 C.2.1 dX0_take_0 rfl (lv_at hl 1 rfl) ?_
  refine lv_bipush (v := 16) C.1 C.2.1 dX0_take_1 (by decide) ?_
  refine lv_icmp_ge (tgt := 14) C.1 C.2.1 dX0_take_3 (by decide) (fun hc => ?_) (fun hc => ?_)
  · replace hf := hf.1 hc
    refine lv_aload_n C.1 C.2.1 dX0_take_14 rfl (lv_at hl 0 rfl) ?_
    refine lv_iload_n C.1 C.2.1 dX0_take_15 rfl (lv_at hl 1 rfl) ?_
    refine x_calliv (As := [.int v1]) (rest := []) C Wd (cX_takeLarge l D ad v1) sX_takeLarge (by decide) rfl hl.1 rfl (Nat.le_of_ble_eq_true rfl) (by decide) dX0_take_16 hf (fun r16 σ16 H locs hf Wd => ?_)
    exact bX_take_19 C Wd hf hl
  · replace hf := hf.2 hc
    refine lv_aload_n C.1 C.2.1 dX0_take_6 rfl (lv_at hl 0 rfl) ?_
    refine lv_iload_n C.1 C.2.1 dX0_take_7 rfl (lv_at hl 1 rfl) ?_
    refine x_calliv (As := [.int v1]) (rest := []) C Wd (cX_takeSmall l D ad v1) sX_takeSmall (by decide) rfl hl.1 rfl (Nat.le_of_ble_eq_true rfl) (by decide) dX0_take_8 hf (fun r8 σ8 H locs hf Wd => ?_)
    refine lv_goto (tgt := 19) C.1 C.2.1 dX0_take_11 (by decide) ?_
    exact bX_take_19 C Wd hf hl
set_option maxHeartbeats 4000000 in
set_option maxRecDepth 100000 in
theorem cX_pointerTo (l : Launch) (D : va_G) (ad : XA) (v0 : Int32) : x_Mi l D yX0_pointerTo cX0_pointerTo 1 (some .int) { frames := 0, cells := 0, slots := 0, locals := 0 } ad [.int v0] (fun σ post => wX_pointerTo (x_n ad) (x_lim ad) σ v0 post) := by
  refine x_ofi ⟨by decide, rfl, Nat.le_of_ble_eq_true rfl⟩ (fun {p e s m args below meth c σ A post ls} C Wd hf hl => ?_)
  replace hl : lv_has ls 1 [(0, .int v0)] := hl
  refine lv_iload_n C.1 C.2.1 dX0_pointerTo_0 rfl (lv_at hl 0 rfl) ?_
  refine lv_iconst (v := (-1)) C.1 C.2.1 dX0_pointerTo_1 (by decide) ?_
  refine lv_icmp_ne (tgt := 9) C.1 C.2.1 dX0_pointerTo_2 (by decide) (fun hc => ?_) (fun hc => ?_)
  · replace hf := hf.1 hc
    refine lv_iload_n C.1 C.2.1 dX0_pointerTo_9 rfl (lv_at hl 0 rfl) ?_
    refine lv_iconst (v := 1) C.1 C.2.1 dX0_pointerTo_10 (by decide) ?_
    refine lv_iadd C.1 C.2.1 dX0_pointerTo_11 ?_
    exact x_iret C Wd hf dX0_pointerTo_12
  · replace hf := hf.2 hc
    refine lv_iconst (v := 0) C.1 C.2.1 dX0_pointerTo_5 (by decide) ?_
    refine lv_goto (tgt := 12) C.1 C.2.1 dX0_pointerTo_6 (by decide) ?_
    exact x_iret C Wd hf dX0_pointerTo_12
set_option maxHeartbeats 4000000 in
set_option maxRecDepth 100000 in
theorem cX_malloc (l : Launch) (D : va_G) (ad : XA) (v1 : Int32) : x_Mi l D yX0_malloc cX0_malloc 2 (some .int) { frames := 5, cells := 0, slots := 0, locals := 138 } ad [.ref (x_h ad), .int v1] (fun σ post => wX_malloc (x_n ad) (x_lim ad) σ v1 post) := by
  refine x_ofi ⟨by decide, rfl, Nat.le_of_ble_eq_true rfl⟩ (fun {p e s m args below meth c σ A post ls} C Wd hf hl => ?_)
  replace hl : lv_has ls 2 [(0, .ref (x_h ad)), (1, .int v1)] := hl
  refine lv_iload_n C.1 C.2.1 dX0_malloc_0 rfl (lv_at hl 1 rfl) ?_
  refine lv_sipush (v := 511) C.1 C.2.1 dX0_malloc_1 (by decide) ?_
  refine lv_icmp_le (tgt := 9) C.1 C.2.1 dX0_malloc_4 (by decide) (fun hc => ?_) (fun hc => ?_)
  · replace hf := hf.1 hc
    refine lv_aload_n C.1 C.2.1 dX0_malloc_9 rfl (lv_at hl 0 rfl) ?_
    refine lv_iload_n C.1 C.2.1 dX0_malloc_10 rfl (lv_at hl 1 rfl) ?_
    refine x_callis (As := [.int v1]) (rest := [.ref (x_h ad)]) C Wd (cX_unitsFor l D ad v1) sX_unitsFor (by decide) rfl hl.1 rfl (Nat.le_of_ble_eq_true rfl) (by decide) dX0_malloc_11 hf (fun r11 σ11 H locs hf Wd => ?_)
    refine x_calliv (As := [.int r11]) (rest := []) C Wd (cX_take l D ad r11) sX_take (by decide) rfl hl.1 rfl (Nat.le_of_ble_eq_true rfl) (by decide) dX0_malloc_14 hf (fun r14 σ14 H locs hf Wd => ?_)
    refine x_callis (As := [.int r14]) (rest := []) C Wd (cX_pointerTo l D ad r14) sX_pointerTo (by decide) rfl hl.1 rfl (Nat.le_of_ble_eq_true rfl) (by decide) dX0_malloc_17 hf (fun r17 σ17 H locs hf Wd => ?_)
    exact x_iret C Wd hf dX0_malloc_20
  · replace hf := hf.2 hc
    refine lv_iconst (v := 0) C.1 C.2.1 dX0_malloc_7 (by decide) ?_
    exact x_iret C Wd hf dX0_malloc_8
set_option maxHeartbeats 4000000 in
set_option maxRecDepth 100000 in
theorem cX_isChunk (l : Launch) (D : va_G) (ad : XA) (v1 : Int32) : x_Mi l D yX0_isChunk cX0_isChunk 2 (some .boolean) { frames := 0, cells := 0, slots := 0, locals := 0 } ad [.ref (x_h ad), .int v1] (fun σ post => wX_isChunk (x_n ad) (x_lim ad) σ v1 post) := by
  refine x_ofi ⟨by decide, rfl, Nat.le_of_ble_eq_true rfl⟩ (fun {p e s m args below meth c σ A post ls} C Wd hf hl => ?_)
  replace hl : lv_has ls 2 [(0, .ref (x_h ad)), (1, .int v1)] := hl
  refine lv_iload_n C.1 C.2.1 dX0_isChunk_0 rfl (lv_at hl 1 rfl) ?_
  refine lv_if_lt (tgt := 26) C.1 C.2.1 dX0_isChunk_1 (by decide) (fun hc => ?_) (fun hc => ?_)
  · replace hf := hf.1 hc
    refine lv_iconst (v := 0) C.1 C.2.1 dX0_isChunk_26 (by decide) ?_
    exact x_zret C Wd (by decide) hf dX0_isChunk_27
  · replace hf := hf.2 hc
    refine lv_iload_n C.1 C.2.1 dX0_isChunk_4 rfl (lv_at hl 1 rfl) ?_
    refine lv_aload_n C.1 C.2.1 dX0_isChunk_5 rfl (lv_at hl 0 rfl) ?_
    refine x_get_en C Wd dX0_isChunk_6 ?_
    refine lv_icmp_ge (tgt := 26) C.1 C.2.1 dX0_isChunk_9 (by decide) (fun hc => ?_) (fun hc => ?_)
    · replace hf := hf.1 hc
      refine lv_iconst (v := 0) C.1 C.2.1 dX0_isChunk_26 (by decide) ?_
      exact x_zret C Wd (by decide) hf dX0_isChunk_27
    · replace hf := hf.2 hc
      refine lv_aload_n C.1 C.2.1 dX0_isChunk_12 rfl (lv_at hl 0 rfl) ?_
      refine x_get_t C Wd dX0_isChunk_13 ?_
      refine lv_iload_n C.1 C.2.1 dX0_isChunk_16 rfl (lv_at hl 1 rfl) ?_
      refine x_ald_t C Wd hf.1 dX0_isChunk_17 ?_
      replace hf := hf.2
      refine lv_iconst (v := (-1)) C.1 C.2.1 dX0_isChunk_18 (by decide) ?_
      refine lv_icmp_eq (tgt := 26) C.1 C.2.1 dX0_isChunk_19 (by decide) (fun hc => ?_) (fun hc => ?_)
      · replace hf := hf.1 hc
        refine lv_iconst (v := 0) C.1 C.2.1 dX0_isChunk_26 (by decide) ?_
        exact x_zret C Wd (by decide) hf dX0_isChunk_27
      · replace hf := hf.2 hc
        refine lv_iconst (v := 1) C.1 C.2.1 dX0_isChunk_22 (by decide) ?_
        refine lv_goto (tgt := 27) C.1 C.2.1 dX0_isChunk_23 (by decide) ?_
        exact x_zret C Wd (by decide) hf dX0_isChunk_27
set_option maxHeartbeats 4000000 in
set_option maxRecDepth 100000 in
theorem cX_isPointer (l : Launch) (D : va_G) (ad : XA) (v1 : Int32) : x_Mi l D yX0_isPointer cX0_isPointer 2 (some .boolean) { frames := 1, cells := 0, slots := 0, locals := 21 } ad [.ref (x_h ad), .int v1] (fun σ post => wX_isPointer (x_n ad) (x_lim ad) σ v1 post) := by
  refine x_ofi ⟨by decide, rfl, Nat.le_of_ble_eq_true rfl⟩ (fun {p e s m args below meth c σ A post ls} C Wd hf hl => ?_)
  replace hl : lv_has ls 2 [(0, .ref (x_h ad)), (1, .int v1)] := hl
  refine lv_aload_n C.1 C.2.1 dX0_isPointer_0 rfl (lv_at hl 0 rfl) ?_
  refine lv_iload_n C.1 C.2.1 dX0_isPointer_1 rfl (lv_at hl 1 rfl) ?_
  refine lv_iconst (v := 1) C.1 C.2.1 dX0_isPointer_2 (by decide) ?_
  refine lv_isub C.1 C.2.1 dX0_isPointer_3 ?_
  refine x_calliv (As := [.int (v1 - 1)]) (rest := []) C Wd (cX_isChunk l D ad (v1 - 1)) sX_isChunk (by decide) rfl hl.1 rfl (Nat.le_of_ble_eq_true rfl) (by decide) dX0_isPointer_4 hf (fun r4 σ4 H locs hf Wd => ?_)
  refine lv_if_eq (tgt := 25) C.1 C.2.1 dX0_isPointer_7 (by decide) (fun hc => ?_) (fun hc => ?_)
  · replace hf := hf.1 hc
    refine lv_iconst (v := 0) C.1 C.2.1 dX0_isPointer_25 (by decide) ?_
    exact x_zret C Wd (by decide) hf dX0_isPointer_26
  · replace hf := hf.2 hc
    refine lv_aload_n C.1 C.2.1 dX0_isPointer_10 rfl (lv_at hl 0 rfl) ?_
    refine x_get_t C Wd dX0_isPointer_11 ?_
    refine lv_iload_n C.1 C.2.1 dX0_isPointer_14 rfl (lv_at hl 1 rfl) ?_
    refine lv_iconst (v := 1) C.1 C.2.1 dX0_isPointer_15 (by decide) ?_
    refine lv_isub C.1 C.2.1 dX0_isPointer_16 ?_
    refine x_ald_t C Wd hf.1 dX0_isPointer_17 ?_
    replace hf := hf.2
    refine lv_if_ne (tgt := 25) C.1 C.2.1 dX0_isPointer_18 (by decide) (fun hc => ?_) (fun hc => ?_)
    · replace hf := hf.1 hc
      refine lv_iconst (v := 0) C.1 C.2.1 dX0_isPointer_25 (by decide) ?_
      exact x_zret C Wd (by decide) hf dX0_isPointer_26
    · replace hf := hf.2 hc
      refine lv_iconst (v := 1) C.1 C.2.1 dX0_isPointer_21 (by decide) ?_
      refine lv_goto (tgt := 26) C.1 C.2.1 dX0_isPointer_22 (by decide) ?_
      exact x_zret C Wd (by decide) hf dX0_isPointer_26
set_option maxHeartbeats 4000000 in
set_option maxRecDepth 100000 in
theorem cX_usable (l : Launch) (D : va_G) (ad : XA) (v1 : Int32) : x_Mi l D yX0_usable cX0_usable 2 (some .int) { frames := 2, cells := 0, slots := 0, locals := 42 } ad [.ref (x_h ad), .int v1] (fun σ post => wX_usable (x_n ad) (x_lim ad) σ v1 post) := by
  refine x_ofi ⟨by decide, rfl, Nat.le_of_ble_eq_true rfl⟩ (fun {p e s m args below meth c σ A post ls} C Wd hf hl => ?_)
  replace hl : lv_has ls 2 [(0, .ref (x_h ad)), (1, .int v1)] := hl
  refine lv_aload_n C.1 C.2.1 dX0_usable_0 rfl (lv_at hl 0 rfl) ?_
  refine lv_iload_n C.1 C.2.1 dX0_usable_1 rfl (lv_at hl 1 rfl) ?_
  refine x_calliv (As := [.int v1]) (rest := []) C Wd (cX_isPointer l D ad v1) sX_isPointer (by decide) rfl hl.1 rfl (Nat.le_of_ble_eq_true rfl) (by decide) dX0_usable_2 hf (fun r2 σ2 H locs hf Wd => ?_)
  refine lv_if_eq (tgt := 21) C.1 C.2.1 dX0_usable_5 (by decide) (fun hc => ?_) (fun hc => ?_)
  · replace hf := hf.1 hc
    refine lv_iconst (v := 0) C.1 C.2.1 dX0_usable_21 (by decide) ?_
    exact x_iret C Wd hf dX0_usable_22
  · replace hf := hf.2 hc
    refine lv_aload_n C.1 C.2.1 dX0_usable_8 rfl (lv_at hl 0 rfl) ?_
    refine x_get_z C Wd dX0_usable_9 ?_
    refine lv_iload_n C.1 C.2.1 dX0_usable_12 rfl (lv_at hl 1 rfl) ?_
    refine lv_iconst (v := 1) C.1 C.2.1 dX0_usable_13 (by decide) ?_
    refine lv_isub C.1 C.2.1 dX0_usable_14 ?_
    refine x_ald_z C Wd hf.1 dX0_usable_15 ?_
    replace hf := hf.2
    refine lv_iconst (v := 1) C.1 C.2.1 dX0_usable_16 (by decide) ?_
    refine lv_isub C.1 C.2.1 dX0_usable_17 ?_
    refine lv_goto (tgt := 22) C.1 C.2.1 dX0_usable_18 (by decide) ?_
    exact x_iret C Wd hf dX0_usable_22
