set_option maxHeartbeats 4000000 in
set_option maxRecDepth 100000 in
theorem law_loop {p : Program} {l : Launch} {e : Env} {s : State} {m : MethodId} {below : List Frame} {meth : Method} {c : Code} {b L : Nat} {xs : Nat → Int32} {D : va_G} {ad : XA} {am : MA} {n : Nat} (hL : L ≤ 2049) (C0 : lw_At p s m meth c b L xs) {Rel : Nat → Nat → XS → MS → Prop} (hs : SimOK Rel) (hskip : ∀ (n k : Nat) (σ : XS) (μ : MS), Rel n k σ μ → Rel n (k + 1) σ μ) (en : x_n ad = n) (el : x_lim ad = nI n) (em : m_lim am = nI n) :
    ∀ (f k : Nat) (σ : XS) (μ : MS) (H : Heap) (locs : List Loc) (ls : Array Slot), 513 ≤ k + f → Rel n k σ μ → l_W D ad am σ μ s H locs → lv_has ls 4 [(0, .ref b), (1, .ref (x_h ad)), (2, .ref (m_h am)), (3, .int (nI (1 + 4 * k)))] → k ≤ 512 → W p l e room_1 s m #[Value.ref b] below meth c H locs 11 3611 (lw_Z below #[Value.ref b] s) (F0 m 28 ls []) := by
  obtain ⟨hx, hb, hr, hml, hown, hts, hX, hbl, hlocks, hgv⟩ := C0
  have C : l_C p s m c b := ⟨hx, hb, hml, hown, fun w h => hts w (lw_g_in h)⟩
  have hb : c.code = cL_law := hb
  have hbA : ¬ l_A s b := Nat.not_le.mpr hbl
  intro f
  induction f with
  | zero => intro k σ μ H locs ls h1 h2 h3 h4 h5; omega
  | succ f ih =>
    intro k σ μ H locs ls hf hrel Wd hl hk5
    generalize hj : 1 + 4 * k = j at hl
    refine lv_iload_n hx hb dL_law_28 rfl (lv_at hl 3 rfl) ?_
    refine lv_aload_n hx hb dL_law_29 rfl (lv_at hl 0 rfl) ?_
    refine va_slen hx hb hX hbl hbA Wd.2.2.1 dL_law_30 ?_
    refine lv_iconst (v := 4) hx hb dL_law_31 (by decide) ?_
    refine lv_isub hx hb dL_law_32 ?_
    refine lv_icmp_gt (tgt := 480) hx hb dL_law_33 (by decide) (fun hc => ?_) (fun hc => ?_)
    · refine lv_iconst (v := 1) hx hb dL_law_480 (by decide) ?_
      refine va_forget (fun q hq => Wd.2.2.1.2.2 q hq) ?_
      refine W.widen (k := 600000) (n := 7302250) (by decide) (by decide) ?_
      exact lw_ret hx hb hr hlocks dL_law_481
    · have hlt : j + 4 ≤ L := by
        have h6 : ¬ nI L - nI 4 < nI j := hc
        rw [Int32.lt_iff_toInt_lt, pk_sub_toInt (by omega) (by omega), nI_toInt (by omega)] at h6
        omega
      have hk : k < 512 := by omega
      have h0 : vp_in (nI j) L := vp_in_nI (by omega) (by omega)
      have h1 : vp_in (nI j + 1) L := by rw [show (1 : Int32) = nI 1 from rfl, nI_add]; exact vp_in_nI (by omega) (by omega)
      have h2 : vp_in (nI j + 2) L := by rw [show (2 : Int32) = nI 2 from rfl, nI_add]; exact vp_in_nI (by omega) (by omega)
      have h3 : vp_in (nI j + 3) L := by rw [show (3 : Int32) = nI 3 from rfl, nI_add]; exact vp_in_nI (by omega) (by omega)
      have ih2 : ∀ (σ : XS) (μ : MS) (H : Heap) (locs : List Loc) (ls : Array Slot), Rel n (k + 1) σ μ → l_W D ad am σ μ s H locs → lv_has ls 4 [(0, .ref b), (1, .ref (x_h ad)), (2, .ref (m_h am)), (3, .int (nI j))] → W p l e room_1 s m #[Value.ref b] below meth c H locs 11 3611 (lw_Z below #[Value.ref b] s) (F0 m 474 ls []) := by
        intro σ μ H locs ls hrel Wd hl
        refine lv_iinc (v := nI (j + 4)) (lv' := [(3, .int (nI (j + 4))), (0, .ref b), (1, .ref (x_h ad)), (2, .ref (m_h am))]) hx hb dL_law_474 hl (k := 3) rfl (nI_add j 4) (by decide) rfl (fun ls hl => ?_)
        refine lv_goto (tgt := 28) hx hb dL_law_477 (by decide) ?_
        have hl := lv_sub hl [1, 2, 3, 0] rfl
        rw [show j + 4 = 1 + 4 * (k + 1) by omega] at hl
        exact ih (k + 1) σ μ H locs ls (by omega) hrel Wd hl (by omega)
      refine lv_aload_n hx hb dL_law_36 rfl (lv_at hl 0 rfl) ?_
      refine lv_iload_n hx hb dL_law_37 rfl (lv_at hl 3 rfl) ?_
      refine va_sld hx hb hX hbl hbA Wd.2.2.1 h0 dL_law_38 ?_
      refine lv_bipush (v := 15) hx hb dL_law_39 (by decide) ?_
      refine lv_iand hx hb dL_law_41 ?_
      obtain ⟨d, hd, ed⟩ := pk_andE (xs (nI j).toNatClampNeg) (m := 15) 4 (by decide)
      rw [ed]
      clear ed
      match d, hd with
      | 0, _ =>
        refine lv_tableIn (off := 70) (tgt := 112) hx hb dL_law_42 (by decide) (by decide) (by decide) (by decide) ?_
        exact bL_malloc C hX hbl hs hk en el em h1 h2 h3 ih2 hrel Wd hl
      | 1, _ =>
        refine lv_tableIn (off := 93) (tgt := 135) hx hb dL_law_42 (by decide) (by decide) (by decide) (by decide) ?_
        exact bL_calloc C hX hbl hs hk en el em h1 h2 h3 ih2 hrel Wd hl
      | 2, _ =>
        refine lv_tableIn (off := 116) (tgt := 158) hx hb dL_law_42 (by decide) (by decide) (by decide) (by decide) ?_
        exact bL_free C hX hbl hs hk en el em h1 h2 h3 ih2 hrel Wd hl
      | 3, _ =>
        refine lv_tableIn (off := 139) (tgt := 181) hx hb dL_law_42 (by decide) (by decide) (by decide) (by decide) ?_
        exact bL_realloc C hX hbl hs hk en el em h1 h2 h3 ih2 hrel Wd hl
      | 4, _ =>
        refine lv_tableIn (off := 172) (tgt := 214) hx hb dL_law_42 (by decide) (by decide) (by decide) (by decide) ?_
        exact bL_align C hX hbl hs hk en el em h1 h2 h3 ih2 hrel Wd hl
      | 5, _ =>
        refine lv_tableIn (off := 205) (tgt := 247) hx hb dL_law_42 (by decide) (by decide) (by decide) (by decide) ?_
        exact bL_trim C hX hbl hs hk en el em h1 h2 h3 ih2 hrel Wd hl
      | 6, _ =>
        refine lv_tableIn (off := 228) (tgt := 270) hx hb dL_law_42 (by decide) (by decide) (by decide) (by decide) ?_
        exact bL_usable C hX hbl hs hk en el em h1 h2 h3 ih2 hrel Wd hl
      | 7, _ =>
        refine lv_tableIn (off := 251) (tgt := 293) hx hb dL_law_42 (by decide) (by decide) (by decide) (by decide) ?_
        exact bL_read C hX hbl hs hk en el em h1 h2 h3 ih2 hrel Wd hl
      | 8, _ =>
        refine lv_tableIn (off := 284) (tgt := 326) hx hb dL_law_42 (by decide) (by decide) (by decide) (by decide) ?_
        exact bL_write C hX hbl hs hk en el em h1 h2 h3 ih2 hrel Wd hl
      | 9, _ =>
        refine lv_tableIn (off := 327) (tgt := 369) hx hb dL_law_42 (by decide) (by decide) (by decide) (by decide) ?_
        exact bL_size C hX hbl hs hk en el em h1 h2 h3 ih2 hrel Wd hl
      | 10, _ =>
        refine lv_tableIn (off := 350) (tgt := 392) hx hb dL_law_42 (by decide) (by decide) (by decide) (by decide) ?_
        exact bL_state C hX hbl hs hk en el em h1 h2 h3 ih2 hrel Wd hl
      | 11, _ =>
        refine lv_tableIn (off := 373) (tgt := 415) hx hb dL_law_42 (by decide) (by decide) (by decide) (by decide) ?_
        exact bL_count C hX hbl hs hk en el em h1 h2 h3 ih2 hrel Wd hl
      | 12, _ =>
        refine lv_tableIn (off := 396) (tgt := 438) hx hb dL_law_42 (by decide) (by decide) (by decide) (by decide) ?_
        exact bL_end C hX hbl hs hk en el em h1 h2 h3 ih2 hrel Wd hl
      | 13, _ =>
        refine lv_tableIn (off := 409) (tgt := 451) hx hb dL_law_42 (by decide) (by decide) (by decide) (by decide) ?_
        exact bL_total C hX hbl hs hk en el em h1 h2 h3 ih2 hrel Wd hl
      | 14, _ =>
        refine lv_tableOut (tgt := 474) hx hb dL_law_42 (by decide) (by decide) ?_
        exact ih2 σ μ H locs ls (hskip n k σ μ hrel) Wd hl
      | 15, _ =>
        refine lv_tableOut (tgt := 474) hx hb dL_law_42 (by decide) (by decide) ?_
        exact ih2 σ μ H locs ls (hskip n k σ μ hrel) Wd hl
      | d + 16, hd => omega
