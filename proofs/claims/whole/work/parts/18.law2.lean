set_option maxHeartbeats 4000000 in
set_option maxRecDepth 100000 in
theorem bL_malloc {p : Program} {l : Launch} {e : Env} {s : State} {m : MethodId} {below : List Frame} {meth : Method} {c : Code} {b L : Nat} {xs : Nat → Int32} {D : va_G} {ad : XA} {am : MA} {n k j : Nat} {Q : State → Prop} (C : l_C p s m c b) (hX : va_X b L xs s s.heap) (hbl : b < s.heap.size) {Rel : Nat → Nat → XS → MS → Prop} (hs : SimOK Rel) (hk : k < 512) (en : x_n ad = n) (el : x_lim ad = nI n) (em : m_lim am = nI n) (h1 : vp_in (nI j + 1) L) (h2 : vp_in (nI j + 2) L) (h3 : vp_in (nI j + 3) L) (ih : ∀ (σ : XS) (μ : MS) (H : Heap) (locs : List Loc) (ls : Array Slot), Rel n (k + 1) σ μ → l_W D ad am σ μ s H locs → lv_has ls 4 [(0, .ref b), (1, .ref (x_h ad)), (2, .ref (m_h am)), (3, .int (nI j))] → W p l e room_1 s m #[Value.ref b] below meth c H locs 11 3611 Q (F0 m 474 ls [])) {σ : XS} {μ : MS} {H : Heap} {locs : List Loc} {ls : Array Slot} (hr : Rel n k σ μ) (Wd : l_W D ad am σ μ s H locs) (hl : lv_has ls 4 [(0, .ref b), (1, .ref (x_h ad)), (2, .ref (m_h am)), (3, .int (nI j))]) : W p l e room_1 s m #[Value.ref b] below meth c H locs 11 3611 Q (F0 m 112 ls []) := by
  obtain ⟨hx, hb, hml, hown, hts⟩ := id C
  have hbA : ¬ l_A s b := Nat.not_le.mpr hbl
  refine lv_aload_n hx hb dL_law_112 rfl (lv_at hl 1 rfl) ?_
  refine lv_aload_n hx hb dL_law_113 rfl (lv_at hl 0 rfl) ?_
  refine lv_iload_n hx hb dL_law_114 rfl (lv_at hl 3 rfl) ?_
  refine lv_iconst (v := 1) hx hb dL_law_115 (by decide) ?_
  refine lv_iadd hx hb dL_law_116 ?_
  refine va_sld hx hb hX hbl hbA Wd.2.2.1 h1 dL_law_117 ?_
  have hf : wX_malloc (x_n ad) (x_lim ad) σ (xs (nI j + 1).toNatClampNeg) (fun r σ1 => wM_malloc (m_lim am) μ (xs (nI j + 1).toNatClampNeg) (fun r1 μ1 => r = r1 ∧ Rel n (k + 1) σ1 μ1)) := by rw [en, el, em]; exact hs.2.1 n k σ μ (xs (nI j + 1).toNatClampNeg) hk hr
  refine l_callx (As := [.int (xs (nI j + 1).toNatClampNeg)]) (rest := []) C Wd (cX_malloc l D ad (xs (nI j + 1).toNatClampNeg)) sLX_malloc (by decide) rfl hl.1 rfl (Nat.le_of_ble_eq_true rfl) (by decide) dL_law_118 hf (fun r σ H locs hf Wd => ?_)
  refine lv_aload_n hx hb dL_law_121 rfl (lv_at hl 2 rfl) ?_
  refine lv_aload_n hx hb dL_law_122 rfl (lv_at hl 0 rfl) ?_
  refine lv_iload_n hx hb dL_law_123 rfl (lv_at hl 3 rfl) ?_
  refine lv_iconst (v := 1) hx hb dL_law_124 (by decide) ?_
  refine lv_iadd hx hb dL_law_125 ?_
  refine va_sld hx hb hX hbl hbA Wd.2.2.1 h1 dL_law_126 ?_
  refine l_callm (As := [.int (xs (nI j + 1).toNatClampNeg)]) (rest := [.int r]) C Wd (cM_malloc l D am (xs (nI j + 1).toNatClampNeg)) sLM_malloc (by decide) rfl hl.1 rfl (Nat.le_of_ble_eq_true rfl) (by decide) dL_law_127 hf (fun r1 μ H locs hf Wd => ?_)
  refine lv_icmp_eq (tgt := 474) hx hb dL_law_130 (by decide) (fun hc => ?_) (fun hc => absurd hf.1 hc)
  exact ih σ μ H locs ls hf.2 Wd hl
set_option maxHeartbeats 4000000 in
set_option maxRecDepth 100000 in
theorem bL_calloc {p : Program} {l : Launch} {e : Env} {s : State} {m : MethodId} {below : List Frame} {meth : Method} {c : Code} {b L : Nat} {xs : Nat → Int32} {D : va_G} {ad : XA} {am : MA} {n k j : Nat} {Q : State → Prop} (C : l_C p s m c b) (hX : va_X b L xs s s.heap) (hbl : b < s.heap.size) {Rel : Nat → Nat → XS → MS → Prop} (hs : SimOK Rel) (hk : k < 512) (en : x_n ad = n) (el : x_lim ad = nI n) (em : m_lim am = nI n) (h1 : vp_in (nI j + 1) L) (h2 : vp_in (nI j + 2) L) (h3 : vp_in (nI j + 3) L) (ih : ∀ (σ : XS) (μ : MS) (H : Heap) (locs : List Loc) (ls : Array Slot), Rel n (k + 1) σ μ → l_W D ad am σ μ s H locs → lv_has ls 4 [(0, .ref b), (1, .ref (x_h ad)), (2, .ref (m_h am)), (3, .int (nI j))] → W p l e room_1 s m #[Value.ref b] below meth c H locs 11 3611 Q (F0 m 474 ls [])) {σ : XS} {μ : MS} {H : Heap} {locs : List Loc} {ls : Array Slot} (hr : Rel n k σ μ) (Wd : l_W D ad am σ μ s H locs) (hl : lv_has ls 4 [(0, .ref b), (1, .ref (x_h ad)), (2, .ref (m_h am)), (3, .int (nI j))]) : W p l e room_1 s m #[Value.ref b] below meth c H locs 11 3611 Q (F0 m 135 ls []) := by
  obtain ⟨hx, hb, hml, hown, hts⟩ := id C
  have hbA : ¬ l_A s b := Nat.not_le.mpr hbl
  refine lv_aload_n hx hb dL_law_135 rfl (lv_at hl 1 rfl) ?_
  refine lv_aload_n hx hb dL_law_136 rfl (lv_at hl 0 rfl) ?_
  refine lv_iload_n hx hb dL_law_137 rfl (lv_at hl 3 rfl) ?_
  refine lv_iconst (v := 1) hx hb dL_law_138 (by decide) ?_
  refine lv_iadd hx hb dL_law_139 ?_
  refine va_sld hx hb hX hbl hbA Wd.2.2.1 h1 dL_law_140 ?_
  have hf : wX_calloc (x_n ad) (x_lim ad) σ (xs (nI j + 1).toNatClampNeg) (fun r σ1 => wM_calloc (m_lim am) μ (xs (nI j + 1).toNatClampNeg) (fun r1 μ1 => r = r1 ∧ Rel n (k + 1) σ1 μ1)) := by rw [en, el, em]; exact hs.2.2.1 n k σ μ (xs (nI j + 1).toNatClampNeg) hk hr
  refine l_callx (As := [.int (xs (nI j + 1).toNatClampNeg)]) (rest := []) C Wd (cX_calloc l D ad (xs (nI j + 1).toNatClampNeg)) sLX_calloc (by decide) rfl hl.1 rfl (Nat.le_of_ble_eq_true rfl) (by decide) dL_law_141 hf (fun r σ H locs hf Wd => ?_)
  refine lv_aload_n hx hb dL_law_144 rfl (lv_at hl 2 rfl) ?_
  refine lv_aload_n hx hb dL_law_145 rfl (lv_at hl 0 rfl) ?_
  refine lv_iload_n hx hb dL_law_146 rfl (lv_at hl 3 rfl) ?_
  refine lv_iconst (v := 1) hx hb dL_law_147 (by decide) ?_
  refine lv_iadd hx hb dL_law_148 ?_
  refine va_sld hx hb hX hbl hbA Wd.2.2.1 h1 dL_law_149 ?_
  refine l_callm (As := [.int (xs (nI j + 1).toNatClampNeg)]) (rest := [.int r]) C Wd (cM_calloc l D am (xs (nI j + 1).toNatClampNeg)) sLM_calloc (by decide) rfl hl.1 rfl (Nat.le_of_ble_eq_true rfl) (by decide) dL_law_150 hf (fun r1 μ H locs hf Wd => ?_)
  refine lv_icmp_eq (tgt := 474) hx hb dL_law_153 (by decide) (fun hc => ?_) (fun hc => absurd hf.1 hc)
  exact ih σ μ H locs ls hf.2 Wd hl
set_option maxHeartbeats 4000000 in
set_option maxRecDepth 100000 in
theorem bL_free {p : Program} {l : Launch} {e : Env} {s : State} {m : MethodId} {below : List Frame} {meth : Method} {c : Code} {b L : Nat} {xs : Nat → Int32} {D : va_G} {ad : XA} {am : MA} {n k j : Nat} {Q : State → Prop} (C : l_C p s m c b) (hX : va_X b L xs s s.heap) (hbl : b < s.heap.size) {Rel : Nat → Nat → XS → MS → Prop} (hs : SimOK Rel) (hk : k < 512) (en : x_n ad = n) (el : x_lim ad = nI n) (em : m_lim am = nI n) (h1 : vp_in (nI j + 1) L) (h2 : vp_in (nI j + 2) L) (h3 : vp_in (nI j + 3) L) (ih : ∀ (σ : XS) (μ : MS) (H : Heap) (locs : List Loc) (ls : Array Slot), Rel n (k + 1) σ μ → l_W D ad am σ μ s H locs → lv_has ls 4 [(0, .ref b), (1, .ref (x_h ad)), (2, .ref (m_h am)), (3, .int (nI j))] → W p l e room_1 s m #[Value.ref b] below meth c H locs 11 3611 Q (F0 m 474 ls [])) {σ : XS} {μ : MS} {H : Heap} {locs : List Loc} {ls : Array Slot} (hr : Rel n k σ μ) (Wd : l_W D ad am σ μ s H locs) (hl : lv_has ls 4 [(0, .ref b), (1, .ref (x_h ad)), (2, .ref (m_h am)), (3, .int (nI j))]) : W p l e room_1 s m #[Value.ref b] below meth c H locs 11 3611 Q (F0 m 158 ls []) := by
  obtain ⟨hx, hb, hml, hown, hts⟩ := id C
  have hbA : ¬ l_A s b := Nat.not_le.mpr hbl
  refine lv_aload_n hx hb dL_law_158 rfl (lv_at hl 1 rfl) ?_
  refine lv_aload_n hx hb dL_law_159 rfl (lv_at hl 0 rfl) ?_
  refine lv_iload_n hx hb dL_law_160 rfl (lv_at hl 3 rfl) ?_
  refine lv_iconst (v := 1) hx hb dL_law_161 (by decide) ?_
  refine lv_iadd hx hb dL_law_162 ?_
  refine va_sld hx hb hX hbl hbA Wd.2.2.1 h1 dL_law_163 ?_
  have hf : wX_free (x_n ad) (x_lim ad) σ (xs (nI j + 1).toNatClampNeg) (fun r σ1 => wM_free (m_lim am) μ (xs (nI j + 1).toNatClampNeg) (fun r1 μ1 => r = r1 ∧ Rel n (k + 1) σ1 μ1)) := by rw [en, el, em]; exact hs.2.2.2.1 n k σ μ (xs (nI j + 1).toNatClampNeg) hk hr
  refine l_callx (As := [.int (xs (nI j + 1).toNatClampNeg)]) (rest := []) C Wd (cX_free l D ad (xs (nI j + 1).toNatClampNeg)) sLX_free (by decide) rfl hl.1 rfl (Nat.le_of_ble_eq_true rfl) (by decide) dL_law_164 hf (fun r σ H locs hf Wd => ?_)
  refine lv_aload_n hx hb dL_law_167 rfl (lv_at hl 2 rfl) ?_
  refine lv_aload_n hx hb dL_law_168 rfl (lv_at hl 0 rfl) ?_
  refine lv_iload_n hx hb dL_law_169 rfl (lv_at hl 3 rfl) ?_
  refine lv_iconst (v := 1) hx hb dL_law_170 (by decide) ?_
  refine lv_iadd hx hb dL_law_171 ?_
  refine va_sld hx hb hX hbl hbA Wd.2.2.1 h1 dL_law_172 ?_
  refine l_callm (As := [.int (xs (nI j + 1).toNatClampNeg)]) (rest := [.int r]) C Wd (cM_free l D am (xs (nI j + 1).toNatClampNeg)) sLM_free (by decide) rfl hl.1 rfl (Nat.le_of_ble_eq_true rfl) (by decide) dL_law_173 hf (fun r1 μ H locs hf Wd => ?_)
  refine lv_icmp_eq (tgt := 474) hx hb dL_law_176 (by decide) (fun hc => ?_) (fun hc => absurd hf.1 hc)
  exact ih σ μ H locs ls hf.2 Wd hl
set_option maxHeartbeats 4000000 in
set_option maxRecDepth 100000 in
theorem bL_realloc {p : Program} {l : Launch} {e : Env} {s : State} {m : MethodId} {below : List Frame} {meth : Method} {c : Code} {b L : Nat} {xs : Nat → Int32} {D : va_G} {ad : XA} {am : MA} {n k j : Nat} {Q : State → Prop} (C : l_C p s m c b) (hX : va_X b L xs s s.heap) (hbl : b < s.heap.size) {Rel : Nat → Nat → XS → MS → Prop} (hs : SimOK Rel) (hk : k < 512) (en : x_n ad = n) (el : x_lim ad = nI n) (em : m_lim am = nI n) (h1 : vp_in (nI j + 1) L) (h2 : vp_in (nI j + 2) L) (h3 : vp_in (nI j + 3) L) (ih : ∀ (σ : XS) (μ : MS) (H : Heap) (locs : List Loc) (ls : Array Slot), Rel n (k + 1) σ μ → l_W D ad am σ μ s H locs → lv_has ls 4 [(0, .ref b), (1, .ref (x_h ad)), (2, .ref (m_h am)), (3, .int (nI j))] → W p l e room_1 s m #[Value.ref b] below meth c H locs 11 3611 Q (F0 m 474 ls [])) {σ : XS} {μ : MS} {H : Heap} {locs : List Loc} {ls : Array Slot} (hr : Rel n k σ μ) (Wd : l_W D ad am σ μ s H locs) (hl : lv_has ls 4 [(0, .ref b), (1, .ref (x_h ad)), (2, .ref (m_h am)), (3, .int (nI j))]) : W p l e room_1 s m #[Value.ref b] below meth c H locs 11 3611 Q (F0 m 181 ls []) := by
  obtain ⟨hx, hb, hml, hown, hts⟩ := id C
  have hbA : ¬ l_A s b := Nat.not_le.mpr hbl
  refine lv_aload_n hx hb dL_law_181 rfl (lv_at hl 1 rfl) ?_
  refine lv_aload_n hx hb dL_law_182 rfl (lv_at hl 0 rfl) ?_
  refine lv_iload_n hx hb dL_law_183 rfl (lv_at hl 3 rfl) ?_
  refine lv_iconst (v := 1) hx hb dL_law_184 (by decide) ?_
  refine lv_iadd hx hb dL_law_185 ?_
  refine va_sld hx hb hX hbl hbA Wd.2.2.1 h1 dL_law_186 ?_
  refine lv_aload_n hx hb dL_law_187 rfl (lv_at hl 0 rfl) ?_
  refine lv_iload_n hx hb dL_law_188 rfl (lv_at hl 3 rfl) ?_
  refine lv_iconst (v := 2) hx hb dL_law_189 (by decide) ?_
  refine lv_iadd hx hb dL_law_190 ?_
  refine va_sld hx hb hX hbl hbA Wd.2.2.1 h2 dL_law_191 ?_
  have hf : wX_realloc (x_n ad) (x_lim ad) σ (xs (nI j + 1).toNatClampNeg) (xs (nI j + 2).toNatClampNeg) (fun r σ1 => wM_realloc (m_lim am) μ (xs (nI j + 1).toNatClampNeg) (xs (nI j + 2).toNatClampNeg) (fun r1 μ1 => r = r1 ∧ Rel n (k + 1) σ1 μ1)) := by rw [en, el, em]; exact hs.2.2.2.2.1 n k σ μ (xs (nI j + 1).toNatClampNeg) (xs (nI j + 2).toNatClampNeg) hk hr
  refine l_callx (As := [.int (xs (nI j + 1).toNatClampNeg), .int (xs (nI j + 2).toNatClampNeg)]) (rest := []) C Wd (cX_realloc l D ad (xs (nI j + 1).toNatClampNeg) (xs (nI j + 2).toNatClampNeg)) sLX_realloc (by decide) rfl hl.1 rfl (Nat.le_of_ble_eq_true rfl) (by decide) dL_law_192 hf (fun r σ H locs hf Wd => ?_)
  refine lv_aload_n hx hb dL_law_195 rfl (lv_at hl 2 rfl) ?_
  refine lv_aload_n hx hb dL_law_196 rfl (lv_at hl 0 rfl) ?_
  refine lv_iload_n hx hb dL_law_197 rfl (lv_at hl 3 rfl) ?_
  refine lv_iconst (v := 1) hx hb dL_law_198 (by decide) ?_
  refine lv_iadd hx hb dL_law_199 ?_
  refine va_sld hx hb hX hbl hbA Wd.2.2.1 h1 dL_law_200 ?_
  refine lv_aload_n hx hb dL_law_201 rfl (lv_at hl 0 rfl) ?_
  refine lv_iload_n hx hb dL_law_202 rfl (lv_at hl 3 rfl) ?_
  refine lv_iconst (v := 2) hx hb dL_law_203 (by decide) ?_
  refine lv_iadd hx hb dL_law_204 ?_
  refine va_sld hx hb hX hbl hbA Wd.2.2.1 h2 dL_law_205 ?_
  refine l_callm (As := [.int (xs (nI j + 1).toNatClampNeg), .int (xs (nI j + 2).toNatClampNeg)]) (rest := [.int r]) C Wd (cM_realloc l D am (xs (nI j + 1).toNatClampNeg) (xs (nI j + 2).toNatClampNeg)) sLM_realloc (by decide) rfl hl.1 rfl (Nat.le_of_ble_eq_true rfl) (by decide) dL_law_206 hf (fun r1 μ H locs hf Wd => ?_)
  refine lv_icmp_eq (tgt := 474) hx hb dL_law_209 (by decide) (fun hc => ?_) (fun hc => absurd hf.1 hc)
  exact ih σ μ H locs ls hf.2 Wd hl
set_option maxHeartbeats 4000000 in
set_option maxRecDepth 100000 in
theorem bL_align {p : Program} {l : Launch} {e : Env} {s : State} {m : MethodId} {below : List Frame} {meth : Method} {c : Code} {b L : Nat} {xs : Nat → Int32} {D : va_G} {ad : XA} {am : MA} {n k j : Nat} {Q : State → Prop} (C : l_C p s m c b) (hX : va_X b L xs s s.heap) (hbl : b < s.heap.size) {Rel : Nat → Nat → XS → MS → Prop} (hs : SimOK Rel) (hk : k < 512) (en : x_n ad = n) (el : x_lim ad = nI n) (em : m_lim am = nI n) (h1 : vp_in (nI j + 1) L) (h2 : vp_in (nI j + 2) L) (h3 : vp_in (nI j + 3) L) (ih : ∀ (σ : XS) (μ : MS) (H : Heap) (locs : List Loc) (ls : Array Slot), Rel n (k + 1) σ μ → l_W D ad am σ μ s H locs → lv_has ls 4 [(0, .ref b), (1, .ref (x_h ad)), (2, .ref (m_h am)), (3, .int (nI j))] → W p l e room_1 s m #[Value.ref b] below meth c H locs 11 3611 Q (F0 m 474 ls [])) {σ : XS} {μ : MS} {H : Heap} {locs : List Loc} {ls : Array Slot} (hr : Rel n k σ μ) (Wd : l_W D ad am σ μ s H locs) (hl : lv_has ls 4 [(0, .ref b), (1, .ref (x_h ad)), (2, .ref (m_h am)), (3, .int (nI j))]) : W p l e room_1 s m #[Value.ref b] below meth c H locs 11 3611 Q (F0 m 214 ls []) := by
  obtain ⟨hx, hb, hml, hown, hts⟩ := id C
  have hbA : ¬ l_A s b := Nat.not_le.mpr hbl
  refine lv_aload_n hx hb dL_law_214 rfl (lv_at hl 1 rfl) ?_
  refine lv_aload_n hx hb dL_law_215 rfl (lv_at hl 0 rfl) ?_
  refine lv_iload_n hx hb dL_law_216 rfl (lv_at hl 3 rfl) ?_
  refine lv_iconst (v := 1) hx hb dL_law_217 (by decide) ?_
  refine lv_iadd hx hb dL_law_218 ?_
  refine va_sld hx hb hX hbl hbA Wd.2.2.1 h1 dL_law_219 ?_
  refine lv_aload_n hx hb dL_law_220 rfl (lv_at hl 0 rfl) ?_
  refine lv_iload_n hx hb dL_law_221 rfl (lv_at hl 3 rfl) ?_
  refine lv_iconst (v := 2) hx hb dL_law_222 (by decide) ?_
  refine lv_iadd hx hb dL_law_223 ?_
  refine va_sld hx hb hX hbl hbA Wd.2.2.1 h2 dL_law_224 ?_
  have hf : wX_align (x_n ad) (x_lim ad) σ (xs (nI j + 1).toNatClampNeg) (xs (nI j + 2).toNatClampNeg) (fun r σ1 => wM_align (m_lim am) μ (xs (nI j + 1).toNatClampNeg) (xs (nI j + 2).toNatClampNeg) (fun r1 μ1 => r = r1 ∧ Rel n (k + 1) σ1 μ1)) := by rw [en, el, em]; exact hs.2.2.2.2.2.1 n k σ μ (xs (nI j + 1).toNatClampNeg) (xs (nI j + 2).toNatClampNeg) hk hr
  refine l_callx (As := [.int (xs (nI j + 1).toNatClampNeg), .int (xs (nI j + 2).toNatClampNeg)]) (rest := []) C Wd (cX_align l D ad (xs (nI j + 1).toNatClampNeg) (xs (nI j + 2).toNatClampNeg)) sLX_align (by decide) rfl hl.1 rfl (Nat.le_of_ble_eq_true rfl) (by decide) dL_law_225 hf (fun r σ H locs hf Wd => ?_)
  refine lv_aload_n hx hb dL_law_228 rfl (lv_at hl 2 rfl) ?_
  refine lv_aload_n hx hb dL_law_229 rfl (lv_at hl 0 rfl) ?_
  refine lv_iload_n hx hb dL_law_230 rfl (lv_at hl 3 rfl) ?_
  refine lv_iconst (v := 1) hx hb dL_law_231 (by decide) ?_
  refine lv_iadd hx hb dL_law_232 ?_
  refine va_sld hx hb hX hbl hbA Wd.2.2.1 h1 dL_law_233 ?_
  refine lv_aload_n hx hb dL_law_234 rfl (lv_at hl 0 rfl) ?_
  refine lv_iload_n hx hb dL_law_235 rfl (lv_at hl 3 rfl) ?_
  refine lv_iconst (v := 2) hx hb dL_law_236 (by decide) ?_
  refine lv_iadd hx hb dL_law_237 ?_
  refine va_sld hx hb hX hbl hbA Wd.2.2.1 h2 dL_law_238 ?_
  refine l_callm (As := [.int (xs (nI j + 1).toNatClampNeg), .int (xs (nI j + 2).toNatClampNeg)]) (rest := [.int r]) C Wd (cM_align l D am (xs (nI j + 1).toNatClampNeg) (xs (nI j + 2).toNatClampNeg)) sLM_align (by decide) rfl hl.1 rfl (Nat.le_of_ble_eq_true rfl) (by decide) dL_law_239 hf (fun r1 μ H locs hf Wd => ?_)
  refine lv_icmp_eq (tgt := 474) hx hb dL_law_242 (by decide) (fun hc => ?_) (fun hc => absurd hf.1 hc)
  exact ih σ μ H locs ls hf.2 Wd hl
set_option maxHeartbeats 4000000 in
set_option maxRecDepth 100000 in
theorem bL_trim {p : Program} {l : Launch} {e : Env} {s : State} {m : MethodId} {below : List Frame} {meth : Method} {c : Code} {b L : Nat} {xs : Nat → Int32} {D : va_G} {ad : XA} {am : MA} {n k j : Nat} {Q : State → Prop} (C : l_C p s m c b) (hX : va_X b L xs s s.heap) (hbl : b < s.heap.size) {Rel : Nat → Nat → XS → MS → Prop} (hs : SimOK Rel) (hk : k < 512) (en : x_n ad = n) (el : x_lim ad = nI n) (em : m_lim am = nI n) (h1 : vp_in (nI j + 1) L) (h2 : vp_in (nI j + 2) L) (h3 : vp_in (nI j + 3) L) (ih : ∀ (σ : XS) (μ : MS) (H : Heap) (locs : List Loc) (ls : Array Slot), Rel n (k + 1) σ μ → l_W D ad am σ μ s H locs → lv_has ls 4 [(0, .ref b), (1, .ref (x_h ad)), (2, .ref (m_h am)), (3, .int (nI j))] → W p l e room_1 s m #[Value.ref b] below meth c H locs 11 3611 Q (F0 m 474 ls [])) {σ : XS} {μ : MS} {H : Heap} {locs : List Loc} {ls : Array Slot} (hr : Rel n k σ μ) (Wd : l_W D ad am σ μ s H locs) (hl : lv_has ls 4 [(0, .ref b), (1, .ref (x_h ad)), (2, .ref (m_h am)), (3, .int (nI j))]) : W p l e room_1 s m #[Value.ref b] below meth c H locs 11 3611 Q (F0 m 247 ls []) := by
  obtain ⟨hx, hb, hml, hown, hts⟩ := id C
  have hbA : ¬ l_A s b := Nat.not_le.mpr hbl
  refine lv_aload_n hx hb dL_law_247 rfl (lv_at hl 1 rfl) ?_
  refine lv_aload_n hx hb dL_law_248 rfl (lv_at hl 0 rfl) ?_
  refine lv_iload_n hx hb dL_law_249 rfl (lv_at hl 3 rfl) ?_
  refine lv_iconst (v := 1) hx hb dL_law_250 (by decide) ?_
  refine lv_iadd hx hb dL_law_251 ?_
  refine va_sld hx hb hX hbl hbA Wd.2.2.1 h1 dL_law_252 ?_
  have hf : wX_trim (x_n ad) (x_lim ad) σ (xs (nI j + 1).toNatClampNeg) (fun r σ1 => wM_trim (m_lim am) μ (xs (nI j + 1).toNatClampNeg) (fun r1 μ1 => r = r1 ∧ Rel n (k + 1) σ1 μ1)) := by rw [en, el, em]; exact hs.2.2.2.2.2.2.1 n k σ μ (xs (nI j + 1).toNatClampNeg) hk hr
  refine l_callx (As := [.int (xs (nI j + 1).toNatClampNeg)]) (rest := []) C Wd (cX_trim l D ad (xs (nI j + 1).toNatClampNeg)) sLX_trim (by decide) rfl hl.1 rfl (Nat.le_of_ble_eq_true rfl) (by decide) dL_law_253 hf (fun r σ H locs hf Wd => ?_)
  refine lv_aload_n hx hb dL_law_256 rfl (lv_at hl 2 rfl) ?_
  refine lv_aload_n hx hb dL_law_257 rfl (lv_at hl 0 rfl) ?_
  refine lv_iload_n hx hb dL_law_258 rfl (lv_at hl 3 rfl) ?_
  refine lv_iconst (v := 1) hx hb dL_law_259 (by decide) ?_
  refine lv_iadd hx hb dL_law_260 ?_
  refine va_sld hx hb hX hbl hbA Wd.2.2.1 h1 dL_law_261 ?_
  refine l_callm (As := [.int (xs (nI j + 1).toNatClampNeg)]) (rest := [.int r]) C Wd (cM_trim l D am (xs (nI j + 1).toNatClampNeg)) sLM_trim (by decide) rfl hl.1 rfl (Nat.le_of_ble_eq_true rfl) (by decide) dL_law_262 hf (fun r1 μ H locs hf Wd => ?_)
  refine lv_icmp_eq (tgt := 474) hx hb dL_law_265 (by decide) (fun hc => ?_) (fun hc => absurd hf.1 hc)
  exact ih σ μ H locs ls hf.2 Wd hl
set_option maxHeartbeats 4000000 in
set_option maxRecDepth 100000 in
theorem bL_usable {p : Program} {l : Launch} {e : Env} {s : State} {m : MethodId} {below : List Frame} {meth : Method} {c : Code} {b L : Nat} {xs : Nat → Int32} {D : va_G} {ad : XA} {am : MA} {n k j : Nat} {Q : State → Prop} (C : l_C p s m c b) (hX : va_X b L xs s s.heap) (hbl : b < s.heap.size) {Rel : Nat → Nat → XS → MS → Prop} (hs : SimOK Rel) (hk : k < 512) (en : x_n ad = n) (el : x_lim ad = nI n) (em : m_lim am = nI n) (h1 : vp_in (nI j + 1) L) (h2 : vp_in (nI j + 2) L) (h3 : vp_in (nI j + 3) L) (ih : ∀ (σ : XS) (μ : MS) (H : Heap) (locs : List Loc) (ls : Array Slot), Rel n (k + 1) σ μ → l_W D ad am σ μ s H locs → lv_has ls 4 [(0, .ref b), (1, .ref (x_h ad)), (2, .ref (m_h am)), (3, .int (nI j))] → W p l e room_1 s m #[Value.ref b] below meth c H locs 11 3611 Q (F0 m 474 ls [])) {σ : XS} {μ : MS} {H : Heap} {locs : List Loc} {ls : Array Slot} (hr : Rel n k σ μ) (Wd : l_W D ad am σ μ s H locs) (hl : lv_has ls 4 [(0, .ref b), (1, .ref (x_h ad)), (2, .ref (m_h am)), (3, .int (nI j))]) : W p l e room_1 s m #[Value.ref b] below meth c H locs 11 3611 Q (F0 m 270 ls []) := by
  obtain ⟨hx, hb, hml, hown, hts⟩ := id C
  have hbA : ¬ l_A s b := Nat.not_le.mpr hbl
  refine lv_aload_n hx hb dL_law_270 rfl (lv_at hl 1 rfl) ?_
  refine lv_aload_n hx hb dL_law_271 rfl (lv_at hl 0 rfl) ?_
  refine lv_iload_n hx hb dL_law_272 rfl (lv_at hl 3 rfl) ?_
  refine lv_iconst (v := 1) hx hb dL_law_273 (by decide) ?_
  refine lv_iadd hx hb dL_law_274 ?_
  refine va_sld hx hb hX hbl hbA Wd.2.2.1 h1 dL_law_275 ?_
  have hf : wX_usable (x_n ad) (x_lim ad) σ (xs (nI j + 1).toNatClampNeg) (fun r σ1 => wM_usable (m_lim am) μ (xs (nI j + 1).toNatClampNeg) (fun r1 μ1 => r = r1 ∧ Rel n (k + 1) σ1 μ1)) := by rw [en, el, em]; exact hs.2.2.2.2.2.2.2.1 n k σ μ (xs (nI j + 1).toNatClampNeg) hk hr
  refine l_callx (As := [.int (xs (nI j + 1).toNatClampNeg)]) (rest := []) C Wd (cX_usable l D ad (xs (nI j + 1).toNatClampNeg)) sLX_usable (by decide) rfl hl.1 rfl (Nat.le_of_ble_eq_true rfl) (by decide) dL_law_276 hf (fun r σ H locs hf Wd => ?_)
  refine lv_aload_n hx hb dL_law_279 rfl (lv_at hl 2 rfl) ?_
  refine lv_aload_n hx hb dL_law_280 rfl (lv_at hl 0 rfl) ?_
  refine lv_iload_n hx hb dL_law_281 rfl (lv_at hl 3 rfl) ?_
  refine lv_iconst (v := 1) hx hb dL_law_282 (by decide) ?_
  refine lv_iadd hx hb dL_law_283 ?_
  refine va_sld hx hb hX hbl hbA Wd.2.2.1 h1 dL_law_284 ?_
  refine l_callm (As := [.int (xs (nI j + 1).toNatClampNeg)]) (rest := [.int r]) C Wd (cM_usable l D am (xs (nI j + 1).toNatClampNeg)) sLM_usable (by decide) rfl hl.1 rfl (Nat.le_of_ble_eq_true rfl) (by decide) dL_law_285 hf (fun r1 μ H locs hf Wd => ?_)
  refine lv_icmp_eq (tgt := 474) hx hb dL_law_288 (by decide) (fun hc => ?_) (fun hc => absurd hf.1 hc)
  exact ih σ μ H locs ls hf.2 Wd hl
set_option maxHeartbeats 4000000 in
set_option maxRecDepth 100000 in
theorem bL_read {p : Program} {l : Launch} {e : Env} {s : State} {m : MethodId} {below : List Frame} {meth : Method} {c : Code} {b L : Nat} {xs : Nat → Int32} {D : va_G} {ad : XA} {am : MA} {n k j : Nat} {Q : State → Prop} (C : l_C p s m c b) (hX : va_X b L xs s s.heap) (hbl : b < s.heap.size) {Rel : Nat → Nat → XS → MS → Prop} (hs : SimOK Rel) (hk : k < 512) (en : x_n ad = n) (el : x_lim ad = nI n) (em : m_lim am = nI n) (h1 : vp_in (nI j + 1) L) (h2 : vp_in (nI j + 2) L) (h3 : vp_in (nI j + 3) L) (ih : ∀ (σ : XS) (μ : MS) (H : Heap) (locs : List Loc) (ls : Array Slot), Rel n (k + 1) σ μ → l_W D ad am σ μ s H locs → lv_has ls 4 [(0, .ref b), (1, .ref (x_h ad)), (2, .ref (m_h am)), (3, .int (nI j))] → W p l e room_1 s m #[Value.ref b] below meth c H locs 11 3611 Q (F0 m 474 ls [])) {σ : XS} {μ : MS} {H : Heap} {locs : List Loc} {ls : Array Slot} (hr : Rel n k σ μ) (Wd : l_W D ad am σ μ s H locs) (hl : lv_has ls 4 [(0, .ref b), (1, .ref (x_h ad)), (2, .ref (m_h am)), (3, .int (nI j))]) : W p l e room_1 s m #[Value.ref b] below meth c H locs 11 3611 Q (F0 m 293 ls []) := by
  obtain ⟨hx, hb, hml, hown, hts⟩ := id C
  have hbA : ¬ l_A s b := Nat.not_le.mpr hbl
  refine lv_aload_n hx hb dL_law_293 rfl (lv_at hl 1 rfl) ?_
  refine lv_aload_n hx hb dL_law_294 rfl (lv_at hl 0 rfl) ?_
  refine lv_iload_n hx hb dL_law_295 rfl (lv_at hl 3 rfl) ?_
  refine lv_iconst (v := 1) hx hb dL_law_296 (by decide) ?_
  refine lv_iadd hx hb dL_law_297 ?_
  refine va_sld hx hb hX hbl hbA Wd.2.2.1 h1 dL_law_298 ?_
  refine lv_aload_n hx hb dL_law_299 rfl (lv_at hl 0 rfl) ?_
  refine lv_iload_n hx hb dL_law_300 rfl (lv_at hl 3 rfl) ?_
  refine lv_iconst (v := 2) hx hb dL_law_301 (by decide) ?_
  refine lv_iadd hx hb dL_law_302 ?_
  refine va_sld hx hb hX hbl hbA Wd.2.2.1 h2 dL_law_303 ?_
  have hf : wX_read (x_n ad) (x_lim ad) σ (xs (nI j + 1).toNatClampNeg) (xs (nI j + 2).toNatClampNeg) (fun r σ1 => wM_read (m_lim am) μ (xs (nI j + 1).toNatClampNeg) (xs (nI j + 2).toNatClampNeg) (fun r1 μ1 => r = r1 ∧ Rel n (k + 1) σ1 μ1)) := by rw [en, el, em]; exact hs.2.2.2.2.2.2.2.2.1 n k σ μ (xs (nI j + 1).toNatClampNeg) (xs (nI j + 2).toNatClampNeg) hk hr
  refine l_callx (As := [.int (xs (nI j + 1).toNatClampNeg), .int (xs (nI j + 2).toNatClampNeg)]) (rest := []) C Wd (cX_read l D ad (xs (nI j + 1).toNatClampNeg) (xs (nI j + 2).toNatClampNeg)) sLX_read (by decide) rfl hl.1 rfl (Nat.le_of_ble_eq_true rfl) (by decide) dL_law_304 hf (fun r σ H locs hf Wd => ?_)
  refine lv_aload_n hx hb dL_law_307 rfl (lv_at hl 2 rfl) ?_
  refine lv_aload_n hx hb dL_law_308 rfl (lv_at hl 0 rfl) ?_
  refine lv_iload_n hx hb dL_law_309 rfl (lv_at hl 3 rfl) ?_
  refine lv_iconst (v := 1) hx hb dL_law_310 (by decide) ?_
  refine lv_iadd hx hb dL_law_311 ?_
  refine va_sld hx hb hX hbl hbA Wd.2.2.1 h1 dL_law_312 ?_
  refine lv_aload_n hx hb dL_law_313 rfl (lv_at hl 0 rfl) ?_
  refine lv_iload_n hx hb dL_law_314 rfl (lv_at hl 3 rfl) ?_
  refine lv_iconst (v := 2) hx hb dL_law_315 (by decide) ?_
  refine lv_iadd hx hb dL_law_316 ?_
  refine va_sld hx hb hX hbl hbA Wd.2.2.1 h2 dL_law_317 ?_
  refine l_callm (As := [.int (xs (nI j + 1).toNatClampNeg), .int (xs (nI j + 2).toNatClampNeg)]) (rest := [.int r]) C Wd (cM_read l D am (xs (nI j + 1).toNatClampNeg) (xs (nI j + 2).toNatClampNeg)) sLM_read (by decide) rfl hl.1 rfl (Nat.le_of_ble_eq_true rfl) (by decide) dL_law_318 hf (fun r1 μ H locs hf Wd => ?_)
  refine lv_icmp_eq (tgt := 474) hx hb dL_law_321 (by decide) (fun hc => ?_) (fun hc => absurd hf.1 hc)
  exact ih σ μ H locs ls hf.2 Wd hl
set_option maxHeartbeats 4000000 in
set_option maxRecDepth 100000 in
theorem bL_write {p : Program} {l : Launch} {e : Env} {s : State} {m : MethodId} {below : List Frame} {meth : Method} {c : Code} {b L : Nat} {xs : Nat → Int32} {D : va_G} {ad : XA} {am : MA} {n k j : Nat} {Q : State → Prop} (C : l_C p s m c b) (hX : va_X b L xs s s.heap) (hbl : b < s.heap.size) {Rel : Nat → Nat → XS → MS → Prop} (hs : SimOK Rel) (hk : k < 512) (en : x_n ad = n) (el : x_lim ad = nI n) (em : m_lim am = nI n) (h1 : vp_in (nI j + 1) L) (h2 : vp_in (nI j + 2) L) (h3 : vp_in (nI j + 3) L) (ih : ∀ (σ : XS) (μ : MS) (H : Heap) (locs : List Loc) (ls : Array Slot), Rel n (k + 1) σ μ → l_W D ad am σ μ s H locs → lv_has ls 4 [(0, .ref b), (1, .ref (x_h ad)), (2, .ref (m_h am)), (3, .int (nI j))] → W p l e room_1 s m #[Value.ref b] below meth c H locs 11 3611 Q (F0 m 474 ls [])) {σ : XS} {μ : MS} {H : Heap} {locs : List Loc} {ls : Array Slot} (hr : Rel n k σ μ) (Wd : l_W D ad am σ μ s H locs) (hl : lv_has ls 4 [(0, .ref b), (1, .ref (x_h ad)), (2, .ref (m_h am)), (3, .int (nI j))]) : W p l e room_1 s m #[Value.ref b] below meth c H locs 11 3611 Q (F0 m 326 ls []) := by
  obtain ⟨hx, hb, hml, hown, hts⟩ := id C
  have hbA : ¬ l_A s b := Nat.not_le.mpr hbl
  refine lv_aload_n hx hb dL_law_326 rfl (lv_at hl 1 rfl) ?_
  refine lv_aload_n hx hb dL_law_327 rfl (lv_at hl 0 rfl) ?_
  refine lv_iload_n hx hb dL_law_328 rfl (lv_at hl 3 rfl) ?_
  refine lv_iconst (v := 1) hx hb dL_law_329 (by decide) ?_
  refine lv_iadd hx hb dL_law_330 ?_
  refine va_sld hx hb hX hbl hbA Wd.2.2.1 h1 dL_law_331 ?_
  refine lv_aload_n hx hb dL_law_332 rfl (lv_at hl 0 rfl) ?_
  refine lv_iload_n hx hb dL_law_333 rfl (lv_at hl 3 rfl) ?_
  refine lv_iconst (v := 2) hx hb dL_law_334 (by decide) ?_
  refine lv_iadd hx hb dL_law_335 ?_
  refine va_sld hx hb hX hbl hbA Wd.2.2.1 h2 dL_law_336 ?_
  refine lv_aload_n hx hb dL_law_337 rfl (lv_at hl 0 rfl) ?_
  refine lv_iload_n hx hb dL_law_338 rfl (lv_at hl 3 rfl) ?_
  refine lv_iconst (v := 3) hx hb dL_law_339 (by decide) ?_
  refine lv_iadd hx hb dL_law_340 ?_
  refine va_sld hx hb hX hbl hbA Wd.2.2.1 h3 dL_law_341 ?_
  have hf : wX_write (x_n ad) (x_lim ad) σ (xs (nI j + 1).toNatClampNeg) (xs (nI j + 2).toNatClampNeg) (xs (nI j + 3).toNatClampNeg) (fun r σ1 => wM_write (m_lim am) μ (xs (nI j + 1).toNatClampNeg) (xs (nI j + 2).toNatClampNeg) (xs (nI j + 3).toNatClampNeg) (fun r1 μ1 => r = r1 ∧ Rel n (k + 1) σ1 μ1)) := by rw [en, el, em]; exact hs.2.2.2.2.2.2.2.2.2.1 n k σ μ (xs (nI j + 1).toNatClampNeg) (xs (nI j + 2).toNatClampNeg) (xs (nI j + 3).toNatClampNeg) hk hr
  refine l_callx (As := [.int (xs (nI j + 1).toNatClampNeg), .int (xs (nI j + 2).toNatClampNeg), .int (xs (nI j + 3).toNatClampNeg)]) (rest := []) C Wd (cX_write l D ad (xs (nI j + 1).toNatClampNeg) (xs (nI j + 2).toNatClampNeg) (xs (nI j + 3).toNatClampNeg)) sLX_write (by decide) rfl hl.1 rfl (Nat.le_of_ble_eq_true rfl) (by decide) dL_law_342 hf (fun r σ H locs hf Wd => ?_)
  refine lv_aload_n hx hb dL_law_345 rfl (lv_at hl 2 rfl) ?_
  refine lv_aload_n hx hb dL_law_346 rfl (lv_at hl 0 rfl) ?_
  refine lv_iload_n hx hb dL_law_347 rfl (lv_at hl 3 rfl) ?_
  refine lv_iconst (v := 1) hx hb dL_law_348 (by decide) ?_
  refine lv_iadd hx hb dL_law_349 ?_
  refine va_sld hx hb hX hbl hbA Wd.2.2.1 h1 dL_law_350 ?_
  refine lv_aload_n hx hb dL_law_351 rfl (lv_at hl 0 rfl) ?_
  refine lv_iload_n hx hb dL_law_352 rfl (lv_at hl 3 rfl) ?_
  refine lv_iconst (v := 2) hx hb dL_law_353 (by decide) ?_
  refine lv_iadd hx hb dL_law_354 ?_
  refine va_sld hx hb hX hbl hbA Wd.2.2.1 h2 dL_law_355 ?_
  refine lv_aload_n hx hb dL_law_356 rfl (lv_at hl 0 rfl) ?_
  refine lv_iload_n hx hb dL_law_357 rfl (lv_at hl 3 rfl) ?_
  refine lv_iconst (v := 3) hx hb dL_law_358 (by decide) ?_
  refine lv_iadd hx hb dL_law_359 ?_
  refine va_sld hx hb hX hbl hbA Wd.2.2.1 h3 dL_law_360 ?_
  refine l_callm (As := [.int (xs (nI j + 1).toNatClampNeg), .int (xs (nI j + 2).toNatClampNeg), .int (xs (nI j + 3).toNatClampNeg)]) (rest := [.int r]) C Wd (cM_write l D am (xs (nI j + 1).toNatClampNeg) (xs (nI j + 2).toNatClampNeg) (xs (nI j + 3).toNatClampNeg)) sLM_write (by decide) rfl hl.1 rfl (Nat.le_of_ble_eq_true rfl) (by decide) dL_law_361 hf (fun r1 μ H locs hf Wd => ?_)
  refine lv_icmp_eq (tgt := 474) hx hb dL_law_364 (by decide) (fun hc => ?_) (fun hc => absurd hf.1 hc)
  exact ih σ μ H locs ls hf.2 Wd hl
set_option maxHeartbeats 4000000 in
set_option maxRecDepth 100000 in
theorem bL_size {p : Program} {l : Launch} {e : Env} {s : State} {m : MethodId} {below : List Frame} {meth : Method} {c : Code} {b L : Nat} {xs : Nat → Int32} {D : va_G} {ad : XA} {am : MA} {n k j : Nat} {Q : State → Prop} (C : l_C p s m c b) (hX : va_X b L xs s s.heap) (hbl : b < s.heap.size) {Rel : Nat → Nat → XS → MS → Prop} (hs : SimOK Rel) (hk : k < 512) (en : x_n ad = n) (el : x_lim ad = nI n) (em : m_lim am = nI n) (h1 : vp_in (nI j + 1) L) (h2 : vp_in (nI j + 2) L) (h3 : vp_in (nI j + 3) L) (ih : ∀ (σ : XS) (μ : MS) (H : Heap) (locs : List Loc) (ls : Array Slot), Rel n (k + 1) σ μ → l_W D ad am σ μ s H locs → lv_has ls 4 [(0, .ref b), (1, .ref (x_h ad)), (2, .ref (m_h am)), (3, .int (nI j))] → W p l e room_1 s m #[Value.ref b] below meth c H locs 11 3611 Q (F0 m 474 ls [])) {σ : XS} {μ : MS} {H : Heap} {locs : List Loc} {ls : Array Slot} (hr : Rel n k σ μ) (Wd : l_W D ad am σ μ s H locs) (hl : lv_has ls 4 [(0, .ref b), (1, .ref (x_h ad)), (2, .ref (m_h am)), (3, .int (nI j))]) : W p l e room_1 s m #[Value.ref b] below meth c H locs 11 3611 Q (F0 m 369 ls []) := by
  obtain ⟨hx, hb, hml, hown, hts⟩ := id C
  have hbA : ¬ l_A s b := Nat.not_le.mpr hbl
  refine lv_aload_n hx hb dL_law_369 rfl (lv_at hl 1 rfl) ?_
  refine lv_aload_n hx hb dL_law_370 rfl (lv_at hl 0 rfl) ?_
  refine lv_iload_n hx hb dL_law_371 rfl (lv_at hl 3 rfl) ?_
  refine lv_iconst (v := 1) hx hb dL_law_372 (by decide) ?_
  refine lv_iadd hx hb dL_law_373 ?_
  refine va_sld hx hb hX hbl hbA Wd.2.2.1 h1 dL_law_374 ?_
  have hf : wX_size (x_n ad) (x_lim ad) σ (xs (nI j + 1).toNatClampNeg) (fun r σ1 => wM_size (m_lim am) μ (xs (nI j + 1).toNatClampNeg) (fun r1 μ1 => r = r1 ∧ Rel n (k + 1) σ1 μ1)) := by rw [en, el, em]; exact hs.2.2.2.2.2.2.2.2.2.2.1 n k σ μ (xs (nI j + 1).toNatClampNeg) hk hr
  refine l_callx (As := [.int (xs (nI j + 1).toNatClampNeg)]) (rest := []) C Wd (cX_size l D ad (xs (nI j + 1).toNatClampNeg)) sLX_size (by decide) rfl hl.1 rfl (Nat.le_of_ble_eq_true rfl) (by decide) dL_law_375 hf (fun r σ H locs hf Wd => ?_)
  refine lv_aload_n hx hb dL_law_378 rfl (lv_at hl 2 rfl) ?_
  refine lv_aload_n hx hb dL_law_379 rfl (lv_at hl 0 rfl) ?_
  refine lv_iload_n hx hb dL_law_380 rfl (lv_at hl 3 rfl) ?_
  refine lv_iconst (v := 1) hx hb dL_law_381 (by decide) ?_
  refine lv_iadd hx hb dL_law_382 ?_
  refine va_sld hx hb hX hbl hbA Wd.2.2.1 h1 dL_law_383 ?_
  refine l_callm (As := [.int (xs (nI j + 1).toNatClampNeg)]) (rest := [.int r]) C Wd (cM_size l D am (xs (nI j + 1).toNatClampNeg)) sLM_size (by decide) rfl hl.1 rfl (Nat.le_of_ble_eq_true rfl) (by decide) dL_law_384 hf (fun r1 μ H locs hf Wd => ?_)
  refine lv_icmp_eq (tgt := 474) hx hb dL_law_387 (by decide) (fun hc => ?_) (fun hc => absurd hf.1 hc)
  exact ih σ μ H locs ls hf.2 Wd hl
set_option maxHeartbeats 4000000 in
set_option maxRecDepth 100000 in
theorem bL_state {p : Program} {l : Launch} {e : Env} {s : State} {m : MethodId} {below : List Frame} {meth : Method} {c : Code} {b L : Nat} {xs : Nat → Int32} {D : va_G} {ad : XA} {am : MA} {n k j : Nat} {Q : State → Prop} (C : l_C p s m c b) (hX : va_X b L xs s s.heap) (hbl : b < s.heap.size) {Rel : Nat → Nat → XS → MS → Prop} (hs : SimOK Rel) (hk : k < 512) (en : x_n ad = n) (el : x_lim ad = nI n) (em : m_lim am = nI n) (h1 : vp_in (nI j + 1) L) (h2 : vp_in (nI j + 2) L) (h3 : vp_in (nI j + 3) L) (ih : ∀ (σ : XS) (μ : MS) (H : Heap) (locs : List Loc) (ls : Array Slot), Rel n (k + 1) σ μ → l_W D ad am σ μ s H locs → lv_has ls 4 [(0, .ref b), (1, .ref (x_h ad)), (2, .ref (m_h am)), (3, .int (nI j))] → W p l e room_1 s m #[Value.ref b] below meth c H locs 11 3611 Q (F0 m 474 ls [])) {σ : XS} {μ : MS} {H : Heap} {locs : List Loc} {ls : Array Slot} (hr : Rel n k σ μ) (Wd : l_W D ad am σ μ s H locs) (hl : lv_has ls 4 [(0, .ref b), (1, .ref (x_h ad)), (2, .ref (m_h am)), (3, .int (nI j))]) : W p l e room_1 s m #[Value.ref b] below meth c H locs 11 3611 Q (F0 m 392 ls []) := by
  obtain ⟨hx, hb, hml, hown, hts⟩ := id C
  have hbA : ¬ l_A s b := Nat.not_le.mpr hbl
  refine lv_aload_n hx hb dL_law_392 rfl (lv_at hl 1 rfl) ?_
  refine lv_aload_n hx hb dL_law_393 rfl (lv_at hl 0 rfl) ?_
  refine lv_iload_n hx hb dL_law_394 rfl (lv_at hl 3 rfl) ?_
  refine lv_iconst (v := 1) hx hb dL_law_395 (by decide) ?_
  refine lv_iadd hx hb dL_law_396 ?_
  refine va_sld hx hb hX hbl hbA Wd.2.2.1 h1 dL_law_397 ?_
  have hf : wX_state (x_n ad) (x_lim ad) σ (xs (nI j + 1).toNatClampNeg) (fun r σ1 => wM_state (m_lim am) μ (xs (nI j + 1).toNatClampNeg) (fun r1 μ1 => r = r1 ∧ Rel n (k + 1) σ1 μ1)) := by rw [en, el, em]; exact hs.2.2.2.2.2.2.2.2.2.2.2.1 n k σ μ (xs (nI j + 1).toNatClampNeg) hk hr
  refine l_callx (As := [.int (xs (nI j + 1).toNatClampNeg)]) (rest := []) C Wd (cX_state l D ad (xs (nI j + 1).toNatClampNeg)) sLX_state (by decide) rfl hl.1 rfl (Nat.le_of_ble_eq_true rfl) (by decide) dL_law_398 hf (fun r σ H locs hf Wd => ?_)
  refine lv_aload_n hx hb dL_law_401 rfl (lv_at hl 2 rfl) ?_
  refine lv_aload_n hx hb dL_law_402 rfl (lv_at hl 0 rfl) ?_
  refine lv_iload_n hx hb dL_law_403 rfl (lv_at hl 3 rfl) ?_
  refine lv_iconst (v := 1) hx hb dL_law_404 (by decide) ?_
  refine lv_iadd hx hb dL_law_405 ?_
  refine va_sld hx hb hX hbl hbA Wd.2.2.1 h1 dL_law_406 ?_
  refine l_callm (As := [.int (xs (nI j + 1).toNatClampNeg)]) (rest := [.int r]) C Wd (cM_state l D am (xs (nI j + 1).toNatClampNeg)) sLM_state (by decide) rfl hl.1 rfl (Nat.le_of_ble_eq_true rfl) (by decide) dL_law_407 hf (fun r1 μ H locs hf Wd => ?_)
  refine lv_icmp_eq (tgt := 474) hx hb dL_law_410 (by decide) (fun hc => ?_) (fun hc => absurd hf.1 hc)
  exact ih σ μ H locs ls hf.2 Wd hl
set_option maxHeartbeats 4000000 in
set_option maxRecDepth 100000 in
theorem bL_count {p : Program} {l : Launch} {e : Env} {s : State} {m : MethodId} {below : List Frame} {meth : Method} {c : Code} {b L : Nat} {xs : Nat → Int32} {D : va_G} {ad : XA} {am : MA} {n k j : Nat} {Q : State → Prop} (C : l_C p s m c b) (hX : va_X b L xs s s.heap) (hbl : b < s.heap.size) {Rel : Nat → Nat → XS → MS → Prop} (hs : SimOK Rel) (hk : k < 512) (en : x_n ad = n) (el : x_lim ad = nI n) (em : m_lim am = nI n) (h1 : vp_in (nI j + 1) L) (h2 : vp_in (nI j + 2) L) (h3 : vp_in (nI j + 3) L) (ih : ∀ (σ : XS) (μ : MS) (H : Heap) (locs : List Loc) (ls : Array Slot), Rel n (k + 1) σ μ → l_W D ad am σ μ s H locs → lv_has ls 4 [(0, .ref b), (1, .ref (x_h ad)), (2, .ref (m_h am)), (3, .int (nI j))] → W p l e room_1 s m #[Value.ref b] below meth c H locs 11 3611 Q (F0 m 474 ls [])) {σ : XS} {μ : MS} {H : Heap} {locs : List Loc} {ls : Array Slot} (hr : Rel n k σ μ) (Wd : l_W D ad am σ μ s H locs) (hl : lv_has ls 4 [(0, .ref b), (1, .ref (x_h ad)), (2, .ref (m_h am)), (3, .int (nI j))]) : W p l e room_1 s m #[Value.ref b] below meth c H locs 11 3611 Q (F0 m 415 ls []) := by
  obtain ⟨hx, hb, hml, hown, hts⟩ := id C
  have hbA : ¬ l_A s b := Nat.not_le.mpr hbl
  refine lv_aload_n hx hb dL_law_415 rfl (lv_at hl 1 rfl) ?_
  refine lv_aload_n hx hb dL_law_416 rfl (lv_at hl 0 rfl) ?_
  refine lv_iload_n hx hb dL_law_417 rfl (lv_at hl 3 rfl) ?_
  refine lv_iconst (v := 1) hx hb dL_law_418 (by decide) ?_
  refine lv_iadd hx hb dL_law_419 ?_
  refine va_sld hx hb hX hbl hbA Wd.2.2.1 h1 dL_law_420 ?_
  have hf : wX_count (x_n ad) (x_lim ad) σ (xs (nI j + 1).toNatClampNeg) (fun r σ1 => wM_count (m_lim am) μ (xs (nI j + 1).toNatClampNeg) (fun r1 μ1 => r = r1 ∧ Rel n (k + 1) σ1 μ1)) := by rw [en, el, em]; exact hs.2.2.2.2.2.2.2.2.2.2.2.2.1 n k σ μ (xs (nI j + 1).toNatClampNeg) hk hr
  refine l_callx (As := [.int (xs (nI j + 1).toNatClampNeg)]) (rest := []) C Wd (cX_count l D ad (xs (nI j + 1).toNatClampNeg)) sLX_count (by decide) rfl hl.1 rfl (Nat.le_of_ble_eq_true rfl) (by decide) dL_law_421 hf (fun r σ H locs hf Wd => ?_)
  refine lv_aload_n hx hb dL_law_424 rfl (lv_at hl 2 rfl) ?_
  refine lv_aload_n hx hb dL_law_425 rfl (lv_at hl 0 rfl) ?_
  refine lv_iload_n hx hb dL_law_426 rfl (lv_at hl 3 rfl) ?_
  refine lv_iconst (v := 1) hx hb dL_law_427 (by decide) ?_
  refine lv_iadd hx hb dL_law_428 ?_
  refine va_sld hx hb hX hbl hbA Wd.2.2.1 h1 dL_law_429 ?_
  refine l_callm (As := [.int (xs (nI j + 1).toNatClampNeg)]) (rest := [.int r]) C Wd (cM_count l D am (xs (nI j + 1).toNatClampNeg)) sLM_count (by decide) rfl hl.1 rfl (Nat.le_of_ble_eq_true rfl) (by decide) dL_law_430 hf (fun r1 μ H locs hf Wd => ?_)
  refine lv_icmp_eq (tgt := 474) hx hb dL_law_433 (by decide) (fun hc => ?_) (fun hc => absurd hf.1 hc)
  exact ih σ μ H locs ls hf.2 Wd hl
set_option maxHeartbeats 4000000 in
set_option maxRecDepth 100000 in
theorem bL_end {p : Program} {l : Launch} {e : Env} {s : State} {m : MethodId} {below : List Frame} {meth : Method} {c : Code} {b L : Nat} {xs : Nat → Int32} {D : va_G} {ad : XA} {am : MA} {n k j : Nat} {Q : State → Prop} (C : l_C p s m c b) (hX : va_X b L xs s s.heap) (hbl : b < s.heap.size) {Rel : Nat → Nat → XS → MS → Prop} (hs : SimOK Rel) (hk : k < 512) (en : x_n ad = n) (el : x_lim ad = nI n) (em : m_lim am = nI n) (h1 : vp_in (nI j + 1) L) (h2 : vp_in (nI j + 2) L) (h3 : vp_in (nI j + 3) L) (ih : ∀ (σ : XS) (μ : MS) (H : Heap) (locs : List Loc) (ls : Array Slot), Rel n (k + 1) σ μ → l_W D ad am σ μ s H locs → lv_has ls 4 [(0, .ref b), (1, .ref (x_h ad)), (2, .ref (m_h am)), (3, .int (nI j))] → W p l e room_1 s m #[Value.ref b] below meth c H locs 11 3611 Q (F0 m 474 ls [])) {σ : XS} {μ : MS} {H : Heap} {locs : List Loc} {ls : Array Slot} (hr : Rel n k σ μ) (Wd : l_W D ad am σ μ s H locs) (hl : lv_has ls 4 [(0, .ref b), (1, .ref (x_h ad)), (2, .ref (m_h am)), (3, .int (nI j))]) : W p l e room_1 s m #[Value.ref b] below meth c H locs 11 3611 Q (F0 m 438 ls []) := by
  obtain ⟨hx, hb, hml, hown, hts⟩ := id C
  have hbA : ¬ l_A s b := Nat.not_le.mpr hbl
  refine lv_aload_n hx hb dL_law_438 rfl (lv_at hl 1 rfl) ?_
  have hf : wX_end (x_n ad) (x_lim ad) σ  (fun r σ1 => wM_end (m_lim am) μ  (fun r1 μ1 => r = r1 ∧ Rel n (k + 1) σ1 μ1)) := by rw [en, el, em]; exact hs.2.2.2.2.2.2.2.2.2.2.2.2.2.1 n k σ μ  hk hr
  refine l_callx (As := []) (rest := []) C Wd (cX_end l D ad ) sLX_end (by decide) rfl hl.1 rfl (Nat.le_of_ble_eq_true rfl) (by decide) dL_law_439 hf (fun r σ H locs hf Wd => ?_)
  refine lv_aload_n hx hb dL_law_442 rfl (lv_at hl 2 rfl) ?_
  refine l_callm (As := []) (rest := [.int r]) C Wd (cM_end l D am ) sLM_end (by decide) rfl hl.1 rfl (Nat.le_of_ble_eq_true rfl) (by decide) dL_law_443 hf (fun r1 μ H locs hf Wd => ?_)
  refine lv_icmp_eq (tgt := 474) hx hb dL_law_446 (by decide) (fun hc => ?_) (fun hc => absurd hf.1 hc)
  exact ih σ μ H locs ls hf.2 Wd hl
set_option maxHeartbeats 4000000 in
set_option maxRecDepth 100000 in
theorem bL_total {p : Program} {l : Launch} {e : Env} {s : State} {m : MethodId} {below : List Frame} {meth : Method} {c : Code} {b L : Nat} {xs : Nat → Int32} {D : va_G} {ad : XA} {am : MA} {n k j : Nat} {Q : State → Prop} (C : l_C p s m c b) (hX : va_X b L xs s s.heap) (hbl : b < s.heap.size) {Rel : Nat → Nat → XS → MS → Prop} (hs : SimOK Rel) (hk : k < 512) (en : x_n ad = n) (el : x_lim ad = nI n) (em : m_lim am = nI n) (h1 : vp_in (nI j + 1) L) (h2 : vp_in (nI j + 2) L) (h3 : vp_in (nI j + 3) L) (ih : ∀ (σ : XS) (μ : MS) (H : Heap) (locs : List Loc) (ls : Array Slot), Rel n (k + 1) σ μ → l_W D ad am σ μ s H locs → lv_has ls 4 [(0, .ref b), (1, .ref (x_h ad)), (2, .ref (m_h am)), (3, .int (nI j))] → W p l e room_1 s m #[Value.ref b] below meth c H locs 11 3611 Q (F0 m 474 ls [])) {σ : XS} {μ : MS} {H : Heap} {locs : List Loc} {ls : Array Slot} (hr : Rel n k σ μ) (Wd : l_W D ad am σ μ s H locs) (hl : lv_has ls 4 [(0, .ref b), (1, .ref (x_h ad)), (2, .ref (m_h am)), (3, .int (nI j))]) : W p l e room_1 s m #[Value.ref b] below meth c H locs 11 3611 Q (F0 m 451 ls []) := by
  obtain ⟨hx, hb, hml, hown, hts⟩ := id C
  have hbA : ¬ l_A s b := Nat.not_le.mpr hbl
  refine lv_aload_n hx hb dL_law_451 rfl (lv_at hl 1 rfl) ?_
  refine lv_aload_n hx hb dL_law_452 rfl (lv_at hl 0 rfl) ?_
  refine lv_iload_n hx hb dL_law_453 rfl (lv_at hl 3 rfl) ?_
  refine lv_iconst (v := 1) hx hb dL_law_454 (by decide) ?_
  refine lv_iadd hx hb dL_law_455 ?_
  refine va_sld hx hb hX hbl hbA Wd.2.2.1 h1 dL_law_456 ?_
  have hf : wX_total (x_n ad) (x_lim ad) σ (xs (nI j + 1).toNatClampNeg) (fun r σ1 => wM_total (m_lim am) μ (xs (nI j + 1).toNatClampNeg) (fun r1 μ1 => r = r1 ∧ Rel n (k + 1) σ1 μ1)) := by rw [en, el, em]; exact hs.2.2.2.2.2.2.2.2.2.2.2.2.2.2 n k σ μ (xs (nI j + 1).toNatClampNeg) hk hr
  refine l_callx (As := [.int (xs (nI j + 1).toNatClampNeg)]) (rest := []) C Wd (cX_total l D ad (xs (nI j + 1).toNatClampNeg)) sLX_total (by decide) rfl hl.1 rfl (Nat.le_of_ble_eq_true rfl) (by decide) dL_law_457 hf (fun r σ H locs hf Wd => ?_)
  refine lv_aload_n hx hb dL_law_460 rfl (lv_at hl 2 rfl) ?_
  refine lv_aload_n hx hb dL_law_461 rfl (lv_at hl 0 rfl) ?_
  refine lv_iload_n hx hb dL_law_462 rfl (lv_at hl 3 rfl) ?_
  refine lv_iconst (v := 1) hx hb dL_law_463 (by decide) ?_
  refine lv_iadd hx hb dL_law_464 ?_
  refine va_sld hx hb hX hbl hbA Wd.2.2.1 h1 dL_law_465 ?_
  refine l_callm (As := [.int (xs (nI j + 1).toNatClampNeg)]) (rest := [.int r]) C Wd (cM_total l D am (xs (nI j + 1).toNatClampNeg)) sLM_total (by decide) rfl hl.1 rfl (Nat.le_of_ble_eq_true rfl) (by decide) dL_law_466 hf (fun r1 μ H locs hf Wd => ?_)
  refine lv_icmp_eq (tgt := 474) hx hb dL_law_469 (by decide) (fun hc => ?_) (fun hc => absurd hf.1 hc)
  exact ih σ μ H locs ls hf.2 Wd hl
