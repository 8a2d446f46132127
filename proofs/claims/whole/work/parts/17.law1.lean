def SimOK (Rel : Nat → Nat → XS → MS → Prop) : Prop :=
  (∀ n : Nat, 16 ≤ n → n ≤ 512 → Rel n 0 (x_i1 n) m_i1) ∧
  (∀ (n k : Nat) (σ : XS) (μ : MS) (a0 : Int32), k < 512 → Rel n k σ μ → wX_malloc n (nI n) σ a0 (fun r σ1 => wM_malloc (nI n) μ a0 (fun r1 μ1 => r = r1 ∧ Rel n (k + 1) σ1 μ1))) ∧
  (∀ (n k : Nat) (σ : XS) (μ : MS) (a0 : Int32), k < 512 → Rel n k σ μ → wX_calloc n (nI n) σ a0 (fun r σ1 => wM_calloc (nI n) μ a0 (fun r1 μ1 => r = r1 ∧ Rel n (k + 1) σ1 μ1))) ∧
  (∀ (n k : Nat) (σ : XS) (μ : MS) (a0 : Int32), k < 512 → Rel n k σ μ → wX_free n (nI n) σ a0 (fun r σ1 => wM_free (nI n) μ a0 (fun r1 μ1 => r = r1 ∧ Rel n (k + 1) σ1 μ1))) ∧
  (∀ (n k : Nat) (σ : XS) (μ : MS) (a0 : Int32) (a1 : Int32), k < 512 → Rel n k σ μ → wX_realloc n (nI n) σ a0 a1 (fun r σ1 => wM_realloc (nI n) μ a0 a1 (fun r1 μ1 => r = r1 ∧ Rel n (k + 1) σ1 μ1))) ∧
  (∀ (n k : Nat) (σ : XS) (μ : MS) (a0 : Int32) (a1 : Int32), k < 512 → Rel n k σ μ → wX_align n (nI n) σ a0 a1 (fun r σ1 => wM_align (nI n) μ a0 a1 (fun r1 μ1 => r = r1 ∧ Rel n (k + 1) σ1 μ1))) ∧
  (∀ (n k : Nat) (σ : XS) (μ : MS) (a0 : Int32), k < 512 → Rel n k σ μ → wX_trim n (nI n) σ a0 (fun r σ1 => wM_trim (nI n) μ a0 (fun r1 μ1 => r = r1 ∧ Rel n (k + 1) σ1 μ1))) ∧
  (∀ (n k : Nat) (σ : XS) (μ : MS) (a0 : Int32), k < 512 → Rel n k σ μ → wX_usable n (nI n) σ a0 (fun r σ1 => wM_usable (nI n) μ a0 (fun r1 μ1 => r = r1 ∧ Rel n (k + 1) σ1 μ1))) ∧
  (∀ (n k : Nat) (σ : XS) (μ : MS) (a0 : Int32) (a1 : Int32), k < 512 → Rel n k σ μ → wX_read n (nI n) σ a0 a1 (fun r σ1 => wM_read (nI n) μ a0 a1 (fun r1 μ1 => r = r1 ∧ Rel n (k + 1) σ1 μ1))) ∧
  (∀ (n k : Nat) (σ : XS) (μ : MS) (a0 : Int32) (a1 : Int32) (a2 : Int32), k < 512 → Rel n k σ μ → wX_write n (nI n) σ a0 a1 a2 (fun r σ1 => wM_write (nI n) μ a0 a1 a2 (fun r1 μ1 => r = r1 ∧ Rel n (k + 1) σ1 μ1))) ∧
  (∀ (n k : Nat) (σ : XS) (μ : MS) (a0 : Int32), k < 512 → Rel n k σ μ → wX_size n (nI n) σ a0 (fun r σ1 => wM_size (nI n) μ a0 (fun r1 μ1 => r = r1 ∧ Rel n (k + 1) σ1 μ1))) ∧
  (∀ (n k : Nat) (σ : XS) (μ : MS) (a0 : Int32), k < 512 → Rel n k σ μ → wX_state n (nI n) σ a0 (fun r σ1 => wM_state (nI n) μ a0 (fun r1 μ1 => r = r1 ∧ Rel n (k + 1) σ1 μ1))) ∧
  (∀ (n k : Nat) (σ : XS) (μ : MS) (a0 : Int32), k < 512 → Rel n k σ μ → wX_count n (nI n) σ a0 (fun r σ1 => wM_count (nI n) μ a0 (fun r1 μ1 => r = r1 ∧ Rel n (k + 1) σ1 μ1))) ∧
  (∀ (n k : Nat) (σ : XS) (μ : MS), k < 512 → Rel n k σ μ → wX_end n (nI n) σ  (fun r σ1 => wM_end (nI n) μ  (fun r1 μ1 => r = r1 ∧ Rel n (k + 1) σ1 μ1))) ∧
  (∀ (n k : Nat) (σ : XS) (μ : MS) (a0 : Int32), k < 512 → Rel n k σ μ → wX_total n (nI n) σ a0 (fun r σ1 => wM_total (nI n) μ a0 (fun r1 μ1 => r = r1 ∧ Rel n (k + 1) σ1 μ1)))
def l_C (p : Program) (s : State) (m : MethodId) (c : Code) (b : Nat) : Prop := p.tables.exec = Jvm.exec ∧ c.code = cL_law ∧ c.maxLocals = 4 ∧ s.vm.findClass RL = some m.cls ∧ ∀ w ∈ lw_g, w.before #[Value.ref b] s = true
def l_A (s : State) : Nat → Prop := fun q : Nat => s.heap.size ≤ q
def l_W (D : va_G) (ad : XA) (am : MA) (σ : XS) (μ : MS) (s : State) (H : Heap) (locs : List Loc) : Prop := va_P D vcl (x_w ad σ ++ m_w am μ) H ∧ va_D (l_A s) (x_w ad σ ++ m_w am μ) ∧ va_S (l_A s) s.heap H locs ∧ va_K D vcl [(x_c ad, .int)] s ∧ va_K D vcl [(m_c am, .int), (m_cz am, .boolean)] s
theorem l_hA {s : State} : ∀ q : Nat, s.heap.size ≤ q → l_A s q := fun _ h => h
theorem l_callx {p : Program} {l : Launch} {e : Env} {s : State} {m : MethodId} {below : List Frame} {meth : Method} {c : Code} {b : Nat} {D : va_G} {ad : XA} {am : MA} {σ : XS} {μ : MS} {H : Heap} {locs : List Loc} {R : Room} {cells slots pc : Nat} {ls : Array Slot} {rest : List Value} {Q : State → Prop} {y : MethodName} {bytes : ByteArray} {maxL n index : Nat} {rt : Option FieldType} {rm : Room} {As st : List Value} {wp : XS → (Int32 → XS → Prop) → Prop} {post : Int32 → XS → Prop} (C : l_C p s m c b) (Wd : l_W D ad am σ μ s H locs) (hM : x_Mi l D y bytes maxL rt rm ad (.ref (x_h ad) :: As) wp) (hS : x_Sv RL index y bytes maxL rt n) (hR : rm.cells = 0 ∧ rm.slots = 0 ∧ rm.frames + 1 ≤ R.frames ∧ 8 + (maxL + 11) + rm.locals ≤ R.locals) (hn : As.length = n) (hls : ls.size = 4) (hst : st = As.reverse ++ .ref (x_h ad) :: rest) (hsm : (rest.map fun v => v.category).sum ≤ 8) (hcs : cells ≤ R.cells ∧ slots ≤ R.slots) (hdg : decode cL_law pc = .ok (.invokevirtual index, 3)) (hw : wp σ post) (kk : ∀ (r : Int32) (u : XS) (H : Heap) (locs : List Loc), post r u → l_W D ad am u μ s H locs → W p l e R s m #[Value.ref b] below meth c H locs cells slots Q (F0 m (pc + 3) ls (.int r :: rest))) : W p l e R s m #[Value.ref b] below meth c H locs cells slots Q (F0 m pc ls st) := by
  obtain ⟨hP, hD, hS0, hKx, hKm⟩ := Wd
  subst hst
  have hPc := hP.sub (ws' := x_w ad σ) [0, 1, 2, 3, 4] rfl
  have hDc := hD.sub (ws' := x_w ad σ) [0, 1, 2, 3, 4] (by decide) rfl
  have hFc := va_free (wc := x_w ad σ) hD hS0 l_hA [0, 1, 2, 3, 4] rfl
  have hc0 : cells + 0 ≤ R.cells ∧ slots + 0 ≤ R.slots := hcs
  refine va_calli (va_runV (As := As) (rest := rest) (b := x_h ad) ⟨C.1, C.2.1, C.2.2.1, C.2.2.2.1, C.2.2.2.2⟩ (hM σ H.size post hw) (cwV n C.2.2.2.2 hS.1 rfl hR.1 hR.2.1 hS.2 hR.2.2) ⟨fun a U g mk q => by obtain ⟨q0, q1, qP, qK, qD⟩ := q; exact ⟨q0, q1, qP, va_K.moved (u := U) (U := U.calling g mk a) (Vm.Alike.refl U.vm) qK, qD⟩, va_recv hKx hPc (ci := 0) (q0 := 0) rfl rfl, fun U hU hW => ⟨rfl, by rw [hU], by rw [hU]; exact hPc, va_K.moved hW.alike hKx, hDc.weaken (fun _ _ _ _ => trivial)⟩⟩ rfl hn hls rfl (lv_room hsm) hdg hc0) hS0 (fun q _ h => hFc q h) hFc (fun r u t H1 locs ht hvm hw hB hz1 hk1 hS => ?_)
  obtain ⟨hP1, hK1, hD1⟩ := hB
  rw [ht] at hP1
  obtain ⟨hP2, hD2⟩ := va_join (wr := m_w am μ) (w1 := x_w ad u) hP hD [0, 1, 2, 3, 4] [5, 6, 7, 8, 9, 10] rfl rfl (by decide) (by decide) hk1 hFc hP1 hD1
  exact kk r u H1 locs hw ⟨hP2.sub [6, 7, 8, 9, 10, 0, 1, 2, 3, 4, 5] rfl, hD2.sub [6, 7, 8, 9, 10, 0, 1, 2, 3, 4, 5] (by decide) rfl, hS, hKx, hKm⟩
theorem l_callm {p : Program} {l : Launch} {e : Env} {s : State} {m : MethodId} {below : List Frame} {meth : Method} {c : Code} {b : Nat} {D : va_G} {ad : XA} {am : MA} {σ : XS} {μ : MS} {H : Heap} {locs : List Loc} {R : Room} {cells slots pc : Nat} {ls : Array Slot} {rest : List Value} {Q : State → Prop} {y : MethodName} {bytes : ByteArray} {maxL n index : Nat} {rt : Option FieldType} {rm : Room} {As st : List Value} {wp : MS → (Int32 → MS → Prop) → Prop} {post : Int32 → MS → Prop} (C : l_C p s m c b) (Wd : l_W D ad am σ μ s H locs) (hM : m_Mi l D y bytes maxL rt rm am (.ref (m_h am) :: As) wp) (hS : m_Sv RL index y bytes maxL rt n) (hR : rm.cells = 0 ∧ rm.slots = 0 ∧ rm.frames + 1 ≤ R.frames ∧ 8 + (maxL + 11) + rm.locals ≤ R.locals) (hn : As.length = n) (hls : ls.size = 4) (hst : st = As.reverse ++ .ref (m_h am) :: rest) (hsm : (rest.map fun v => v.category).sum ≤ 8) (hcs : cells ≤ R.cells ∧ slots ≤ R.slots) (hdg : decode cL_law pc = .ok (.invokevirtual index, 3)) (hw : wp μ post) (kk : ∀ (r : Int32) (u : MS) (H : Heap) (locs : List Loc), post r u → l_W D ad am σ u s H locs → W p l e R s m #[Value.ref b] below meth c H locs cells slots Q (F0 m (pc + 3) ls (.int r :: rest))) : W p l e R s m #[Value.ref b] below meth c H locs cells slots Q (F0 m pc ls st) := by
  obtain ⟨hP, hD, hS0, hKx, hKm⟩ := Wd
  subst hst
  have hPc := hP.sub (ws' := m_w am μ) [5, 6, 7, 8, 9, 10] rfl
  have hDc := hD.sub (ws' := m_w am μ) [5, 6, 7, 8, 9, 10] (by decide) rfl
  have hFc := va_free (wc := m_w am μ) hD hS0 l_hA [5, 6, 7, 8, 9, 10] rfl
  have hc0 : cells + 0 ≤ R.cells ∧ slots + 0 ≤ R.slots := hcs
  refine va_calli (va_runV (As := As) (rest := rest) (b := m_h am) ⟨C.1, C.2.1, C.2.2.1, C.2.2.2.1, C.2.2.2.2⟩ (hM μ H.size post hw) (cwV n C.2.2.2.2 hS.1 rfl hR.1 hR.2.1 hS.2 hR.2.2) ⟨fun a U g mk q => by obtain ⟨q0, q1, qP, qK, qD⟩ := q; exact ⟨q0, q1, qP, va_K.moved (u := U) (U := U.calling g mk a) (Vm.Alike.refl U.vm) qK, qD⟩, va_recv hKm hPc (ci := 1) (q0 := 0) rfl rfl, fun U hU hW => ⟨rfl, by rw [hU], by rw [hU]; exact hPc, va_K.moved hW.alike hKm, hDc.weaken (fun _ _ _ _ => trivial)⟩⟩ rfl hn hls rfl (lv_room hsm) hdg hc0) hS0 (fun q _ h => hFc q h) hFc (fun r u t H1 locs ht hvm hw hB hz1 hk1 hS => ?_)
  obtain ⟨hP1, hK1, hD1⟩ := hB
  rw [ht] at hP1
  obtain ⟨hP2, hD2⟩ := va_join (wr := x_w ad σ) (w1 := m_w am u) hP hD [5, 6, 7, 8, 9, 10] [0, 1, 2, 3, 4] rfl rfl (by decide) (by decide) hk1 hFc hP1 hD1
  exact kk r u H1 locs hw ⟨hP2.sub [0, 1, 2, 3, 4, 5, 6, 7, 8, 9, 10] rfl, hD2.sub [0, 1, 2, 3, 4, 5, 6, 7, 8, 9, 10] (by decide) rfl, hS, hKx, hKm⟩
theorem sLX_malloc : x_Sv RL 21 yX0_malloc cX0_malloc 2 (some .int) 1 := ⟨gw_v (gm 95 rfl rfl) (gm 96 rfl rfl) (gm 97 rfl rfl) (gm 44 rfl rfl) (gm 98 rfl rfl), by decide +kernel⟩
theorem sLM_malloc : m_Sv RL 25 yX1_malloc cX1_malloc 3 (some .int) 1 := ⟨gw_v (gm 311 rfl rfl) (gm 312 rfl rfl) (gm 313 rfl rfl) (gm 47 rfl rfl) (gm 314 rfl rfl), by decide +kernel⟩
theorem sLX_calloc : x_Sv RL 26 yX0_calloc cX0_calloc 3 (some .int) 1 := ⟨gw_v (gm 163 rfl rfl) (gm 164 rfl rfl) (gm 165 rfl rfl) (gm 44 rfl rfl) (gm 166 rfl rfl), by decide +kernel⟩
theorem sLM_calloc : m_Sv RL 29 yX1_calloc cX1_calloc 5 (some .int) 1 := ⟨gw_v (gm 363 rfl rfl) (gm 364 rfl rfl) (gm 365 rfl rfl) (gm 47 rfl rfl) (gm 366 rfl rfl), by decide +kernel⟩
theorem sLX_free : x_Sv RL 30 yX0_free cX0_free 2 (some .boolean) 1 := ⟨gw_v (gm 180 rfl rfl) (gm 181 rfl rfl) (gm 182 rfl rfl) (gm 44 rfl rfl) (gm 183 rfl rfl), by decide +kernel⟩
theorem sLM_free : m_Sv RL 34 yX1_free cX1_free 3 (some .boolean) 1 := ⟨gw_v (gm 372 rfl rfl) (gm 373 rfl rfl) (gm 374 rfl rfl) (gm 47 rfl rfl) (gm 375 rfl rfl), by decide +kernel⟩
theorem sLX_realloc : x_Sv RL 35 yX0_realloc cX0_realloc 5 (some .int) 2 := ⟨gw_v (gm 196 rfl rfl) (gm 197 rfl rfl) (gm 198 rfl rfl) (gm 44 rfl rfl) (gm 199 rfl rfl), by decide +kernel⟩
theorem sLM_realloc : m_Sv RL 39 yX1_realloc cX1_realloc 5 (some .int) 2 := ⟨gw_v (gm 384 rfl rfl) (gm 385 rfl rfl) (gm 386 rfl rfl) (gm 47 rfl rfl) (gm 387 rfl rfl), by decide +kernel⟩
theorem sLX_align : x_Sv RL 40 yX0_align cX0_align 6 (some .int) 2 := ⟨gw_v (gm 215 rfl rfl) (gm 216 rfl rfl) (gm 217 rfl rfl) (gm 44 rfl rfl) (gm 218 rfl rfl), by decide +kernel⟩
theorem sLM_align : m_Sv RL 43 yX1_align cX1_align 7 (some .int) 2 := ⟨gw_v (gm 400 rfl rfl) (gm 401 rfl rfl) (gm 402 rfl rfl) (gm 47 rfl rfl) (gm 403 rfl rfl), by decide +kernel⟩
theorem sLX_trim : x_Sv RL 44 yX0_trim cX0_trim 5 (some .int) 1 := ⟨gw_v (gm 225 rfl rfl) (gm 226 rfl rfl) (gm 227 rfl rfl) (gm 44 rfl rfl) (gm 228 rfl rfl), by decide +kernel⟩
theorem sLM_trim : m_Sv RL 47 yX1_trim cX1_trim 4 (some .int) 1 := ⟨gw_v (gm 404 rfl rfl) (gm 405 rfl rfl) (gm 406 rfl rfl) (gm 47 rfl rfl) (gm 407 rfl rfl), by decide +kernel⟩
theorem sLX_usable : x_Sv RL 48 yX0_usable cX0_usable 2 (some .int) 1 := ⟨gw_v (gm 233 rfl rfl) (gm 177 rfl rfl) (gm 178 rfl rfl) (gm 44 rfl rfl) (gm 179 rfl rfl), by decide +kernel⟩
theorem sLM_usable : m_Sv RL 51 yX1_usable cX1_usable 3 (some .int) 1 := ⟨gw_v (gm 408 rfl rfl) (gm 409 rfl rfl) (gm 410 rfl rfl) (gm 47 rfl rfl) (gm 411 rfl rfl), by decide +kernel⟩
theorem sLX_read : x_Sv RL 52 yX0_read cX0_read 3 (some .int) 2 := ⟨gw_v (gm 234 rfl rfl) (gm 235 rfl rfl) (gm 236 rfl rfl) (gm 44 rfl rfl) (gm 237 rfl rfl), by decide +kernel⟩
theorem sLM_read : m_Sv RL 55 yX1_read cX1_read 3 (some .int) 2 := ⟨gw_v (gm 412 rfl rfl) (gm 413 rfl rfl) (gm 414 rfl rfl) (gm 47 rfl rfl) (gm 415 rfl rfl), by decide +kernel⟩
theorem sLX_write : x_Sv RL 56 yX0_write cX0_write 4 (some .boolean) 3 := ⟨gw_v (gm 242 rfl rfl) (gm 243 rfl rfl) (gm 244 rfl rfl) (gm 44 rfl rfl) (gm 245 rfl rfl), by decide +kernel⟩
theorem sLM_write : m_Sv RL 60 yX1_write cX1_write 4 (some .boolean) 3 := ⟨gw_v (gm 421 rfl rfl) (gm 422 rfl rfl) (gm 423 rfl rfl) (gm 47 rfl rfl) (gm 424 rfl rfl), by decide +kernel⟩
theorem sLX_size : x_Sv RL 61 yX0_size cX0_size 2 (some .int) 1 := ⟨gw_v (gm 246 rfl rfl) (gm 247 rfl rfl) (gm 248 rfl rfl) (gm 44 rfl rfl) (gm 249 rfl rfl), by decide +kernel⟩
theorem sLM_size : m_Sv RL 64 yX1_size cX1_size 3 (some .int) 1 := ⟨gw_v (gm 425 rfl rfl) (gm 426 rfl rfl) (gm 427 rfl rfl) (gm 47 rfl rfl) (gm 428 rfl rfl), by decide +kernel⟩
theorem sLX_state : x_Sv RL 65 yX0_state cX0_state 2 (some .int) 1 := ⟨gw_v (gm 250 rfl rfl) (gm 251 rfl rfl) (gm 252 rfl rfl) (gm 44 rfl rfl) (gm 253 rfl rfl), by decide +kernel⟩
theorem sLM_state : m_Sv RL 68 yX1_state cX1_state 3 (some .int) 1 := ⟨gw_v (gm 429 rfl rfl) (gm 430 rfl rfl) (gm 431 rfl rfl) (gm 47 rfl rfl) (gm 432 rfl rfl), by decide +kernel⟩
theorem sLX_count : x_Sv RL 69 yX0_count cX0_count 4 (some .int) 1 := ⟨gw_v (gm 254 rfl rfl) (gm 255 rfl rfl) (gm 256 rfl rfl) (gm 44 rfl rfl) (gm 257 rfl rfl), by decide +kernel⟩
theorem sLM_count : m_Sv RL 72 yX1_count cX1_count 6 (some .int) 1 := ⟨gw_v (gm 433 rfl rfl) (gm 434 rfl rfl) (gm 435 rfl rfl) (gm 47 rfl rfl) (gm 436 rfl rfl), by decide +kernel⟩
theorem sLX_end : x_Sv RL 73 yX0_end cX0_end 1 (some .int) 0 := ⟨gw_v (gm 262 rfl rfl) (gm 263 rfl rfl) (gm 264 rfl rfl) (gm 44 rfl rfl) (gm 265 rfl rfl), by decide +kernel⟩
theorem sLM_end : m_Sv RL 77 yX1_end cX1_end 1 (some .int) 0 := ⟨gw_v (gm 437 rfl rfl) (gm 438 rfl rfl) (gm 439 rfl rfl) (gm 47 rfl rfl) (gm 440 rfl rfl), by decide +kernel⟩
theorem sLX_total : x_Sv RL 78 yX0_total cX0_total 4 (some .int) 1 := ⟨gw_v (gm 266 rfl rfl) (gm 267 rfl rfl) (gm 268 rfl rfl) (gm 44 rfl rfl) (gm 269 rfl rfl), by decide +kernel⟩
theorem sLM_total : m_Sv RL 81 yX1_total cX1_total 4 (some .int) 1 := ⟨gw_v (gm 441 rfl rfl) (gm 442 rfl rfl) (gm 443 rfl rfl) (gm 47 rfl rfl) (gm 444 rfl rfl), by decide +kernel⟩
