set_option maxHeartbeats 4000000 in
set_option maxRecDepth 100000 in
theorem cL_cellM (l : Launch) (b L : Nat) (xs : Nat → Int32) : Met l yL_cell (.code yL_cell cL_cell 2 (some .int) :: lw_g) { frames := 0, cells := 0, slots := 0, locals := 0 } (va_Pc [.ref b, .int 0] (fun U => va_X b L xs U U.heap ∧ L < 2 ^ 31)) (vp_Si (fun r => r = if 0 < L then xs 0 else 0)) 0 0 (fun _ => False) := by
  refine Met.ofW (cc := cL_cell) (maxL := 2) (ret := (some .int)) (by decide) rfl ?_
  intro p e s m args below meth c s₁ B hml hv
  obtain ⟨rfl, hX, hL⟩ := hv
  have hx := B.exec
  have hb := B.bytes
  have hr := B.returns
  have hlocks := B.notSynchronized
  have hbl : b < s.heap.size := (Array.getElem?_eq_some_iff.mp hX.choose_spec.1).1
  have hbA : ¬ (fun _ : Nat => False) b := fun h => h
  have hS : va_S (fun _ : Nat => False) s.heap s.heap [] := va_S.rf
  have hl := lv_entry ([.ref b, .int 0]) (n := 2) (Nat.le_of_ble_eq_true rfl)
  rw [lg_entry_eq]
  generalize (lg_sl ([.ref b, .int 0]) ++ List.replicate (2 - (lg_sl ([.ref b, .int 0])).length) Slot.unset).toArray = ls at hl ⊢
  have hl : lv_has ls 2 [(0, .ref b), (1, .int 0)] := hl
  refine lv_iload_n hx hb dL_cell_0 rfl (lv_at hl 1 rfl) ?_
  refine lv_aload_n hx hb dL_cell_1 rfl (lv_at hl 0 rfl) ?_
  refine va_slen hx hb hX hbl hbA hS dL_cell_2 ?_
  refine lv_icmp_ge (tgt := 12) hx hb dL_cell_3 (by decide) (fun hc => ?_) (fun hc => ?_)
  · refine lv_iconst (v := 0) hx hb dL_cell_12 (by decide) ?_
    have h0 : ¬ 0 < L := fun h => absurd ((nI_leI (a := L) (b := 0) hL (by decide)).mp hc) (by omega)
    exact W.iret (v := 0) hx hb hr (fun t ht hW => ⟨0, rfl, by rw [if_neg h0], ht⟩) (fun q h => by cases h) dL_cell_13 hlocks
  · have hp : 0 < L := by
      rcases Nat.eq_zero_or_pos L with h | h
      · subst h; exact absurd (by decide) hc
      · exact h
    have h0 : vp_in 0 L := vp_in_nI (n := 0) hp hL
    refine lv_aload_n hx hb dL_cell_6 rfl (lv_at hl 0 rfl) ?_
    refine lv_iload_n hx hb dL_cell_7 rfl (lv_at hl 1 rfl) ?_
    refine va_sld hx hb hX hbl hbA hS h0 dL_cell_8 ?_
    refine lv_goto (tgt := 13) hx hb dL_cell_9 (by decide) ?_
    exact W.iret hx hb hr (fun t ht hW => ⟨_, rfl, by rw [if_pos hp]; rfl, ht⟩) (fun q h => by cases h) dL_cell_13 hlocks
theorem hf0 : ∀ j, j < 9 → defaultValue (tyX0 j) = vp_V x_f0 j := by
  intro j hj
  match j, hj with
  | 0, _ => rfl
  | 1, _ => rfl
  | 2, _ => rfl
  | 3, _ => rfl
  | 4, _ => rfl
  | 5, _ => rfl
  | 6, _ => rfl
  | 7, _ => rfl
  | 8, _ => rfl
  | j + 9, hj => omega
theorem hf1 : ∀ j, j < 10 → defaultValue (tyX1 j) = vp_V m_f0 j := by
  intro j hj
  match j, hj with
  | 0, _ => rfl
  | 1, _ => rfl
  | 2, _ => rfl
  | 3, _ => rfl
  | 4, _ => rfl
  | 5, _ => rfl
  | 6, _ => rfl
  | 7, _ => rfl
  | 8, _ => rfl
  | 9, _ => rfl
  | j + 10, hj => omega
set_option maxHeartbeats 4000000 in
set_option maxRecDepth 100000 in
theorem whole_of {Rel : Nat → Nat → XS → MS → Prop} (hs : SimOK Rel) (hskip : ∀ (n k : Nat) (σ : XS) (μ : MS), Rel n k σ μ → Rel n (k + 1) σ μ) {p : Program} {e : Env} {s : State} {m : MethodId} {below : List Frame} {meth : Method} {c : Code} (l : Launch) {b L : Nat} {xs : Nat → Int32} (hL : L ≤ 2049) (C0 : lw_At p s m meth c b L xs) : W p l e room_1 s m #[Value.ref b] below meth c s.heap [] 0 0 (lw_Z below #[Value.ref b] s) (entryFrame m ([Value.ref b] : List Value).toArray 4) := by
  obtain ⟨hx, hb, hr, hml, hown, hts, hX, hbl, hlocks, hgv⟩ := id C0
  have hb : c.code = cL_law := hb
  have hown : s.vm.findClass RL = some m.cls := hown
  have htg : ∀ w ∈ lw_g, w.before #[Value.ref b] s = true := fun w h => hts w (lw_g_in h)
  have hbA : ¬ l_A s b := Nat.not_le.mpr hbl
  obtain ⟨c0, iS0, hKn0⟩ := u_known (C := RX0) (T := TX0) (N := 9) (n := 9) htg x_in (hts (.instantiable RX0 9) (List.mem_of_getElem? (i := 50) rfl))
  obtain ⟨c1, iS1, hKn1⟩ := u_known (C := RX1) (T := TX1) (N := 10) (n := 10) htg m_in (hts (.instantiable RX1 10) (List.mem_of_getElem? (i := 274) rfl))
  obtain ⟨D, hKc⟩ : ∃ D : va_G, ∀ (k : Nat) (q : vw_C), vcl[k]? = some q → u_Kn s q.1 q.2.1 q.2.2 (D.1 k) (D.2 k) := by
    refine ⟨(fun k => if k = 0 then c0 else c1, fun k => if k = 0 then iS0 else iS1), ?_⟩
    intro k q hq
    match k, hq with
    | 0, hq => cases hq; exact hKn0
    | 1, hq => cases hq; exact hKn1
    | k + 2, hq => simp [vcl] at hq
  have hS : va_S (l_A s) s.heap s.heap [] := va_S.rf
  have hK : va_K D vcl [] s := ⟨hKc, fun k q h => by simp at h⟩
  have hP : va_P D vcl [] s.heap := fun k q h => by simp at h
  have hD : va_D (l_A s) [] := ⟨fun i j p q h => by simp at h, fun k q h => by simp at h⟩
  have hl := lv_entry ([.ref b]) (n := 4) (Nat.le_of_ble_eq_true rfl)
  rw [lg_entry_eq]
  generalize (lg_sl ([.ref b]) ++ List.replicate (4 - (lg_sl ([.ref b])).length) Slot.unset).toArray = ls at hl ⊢
  have hl : lv_has ls 4 [(0, .ref b)] := hl
  refine va_new (ci := 0) (fs := x_f0) (C := RX0) (T := TX0) (N := 9) hx hb htg x_in tyX0 tyX0_ok hown (hts (.classLink RL 7 RX0) (List.mem_of_getElem? (i := 49) rfl)) (hts (.instantiable RX0 9) (List.mem_of_getElem? (i := 50) rfl)) (hts (.initialized RX0) (List.mem_of_getElem? (i := 44) rfl)) hK hP hD hS l_hA rfl hf0 (by decide) (by decide) dL_law_0 (fun q1 H hP hD hS => ?_)
  replace hP : va_P D vcl [(q1, .inr (0, x_f0))] H := hP
  replace hD : va_D (l_A s) [(q1, .inr (0, x_f0))] := hD
  refine W.widen (k := 1) (n := 9) (by decide) (by decide) ?_
  refine lv_dup hx hb dL_law_3 rfl ?_
  refine lv_aload_n hx hb dL_law_4 rfl (lv_at hl 0 rfl) ?_
  refine lv_iconst (v := 0) hx hb dL_law_5 (by decide) ?_
  refine vp_callSi (W.runS (As := [.ref b, .int 0]) (rest := [.ref q1, .ref q1]) ⟨hx, hb, hml, hown, htg⟩ (cL_cellM l b L xs) (cwS 2 htg (gw_s (gm 270 rfl rfl) (gm 271 rfl rfl) (gm 43 rfl rfl) (gm 272 rfl rfl)) rfl rfl rfl (by decide +kernel) ⟨by decide, by decide⟩) ⟨fun a U g mk q => ⟨q.1, va_X.moved (u := U) (U := U.calling g mk a) (Vm.Alike.refl U.vm) q.2.1, q.2.2⟩, fun U hU hW => ⟨rfl, (hX.moved hW.alike).kept (by rw [hU]; exact hS.2.1 b hbl hbA), by omega⟩⟩ rfl rfl hl.1 rfl (lv_room (Nat.le_of_ble_eq_true rfl)) dL_law_6 ⟨by decide, by decide⟩) (fun r hr0 => ?_)
  subst hr0
  have hPc := hP.sub (ws' := [(q1, .inr (0, x_f0))]) [0] rfl
  have hDc := hD.sub (ws' := [(q1, .inr (0, x_f0))]) [0] (by decide) rfl
  have hFc := va_free (wc := [(q1, .inr (0, x_f0))]) hD hS l_hA [0] rfl
  refine va_callv (va_runI (As := [.int (if 0 < L then xs 0 else 0)]) (rest := [.ref q1]) ⟨hx, hb, hml, hown, htg⟩ (cX_init l D q1 (if 0 < L then xs 0 else 0) H.size) (cwI 1 htg (gw_all (ws := .code yX0_init cX0_init 2 none :: lw_g) (fun w hw => (List.mem_cons.mp hw).elim (fun h => h ▸ gm 53 rfl rfl) id)) rfl rfl rfl (htg (.initialized RX0) (gm 44 rfl rfl)) (htg (.methodLink RL 15 yX0_init) (gm 51 rfl rfl)) (htg (.instanceMethod yX0_init) (gm 52 rfl rfl)) rfl (by decide +kernel) ⟨by decide, by decide⟩) ⟨fun a U g mk q => by obtain ⟨q0, q1, qP, qK, qD⟩ := q; exact ⟨q0, q1, qP, va_K.moved (u := U) (U := U.calling g mk a) (Vm.Alike.refl U.vm) qK, qD⟩, fun U hU hW => ⟨rfl, by rw [hU], by rw [hU]; exact hPc, va_K.moved hW.alike hK, hDc.weaken (fun _ _ _ _ => trivial)⟩⟩ rfl rfl hl.1 rfl (lv_room (Nat.le_of_ble_eq_true rfl)) dL_law_9 ⟨by decide, by decide⟩) hS (fun q _ h => hFc q h) hFc (fun ad t H1 locs ht hvm hwX hB hz1 hk1 hS => ?_)
  obtain ⟨hP1, hK1, hD1⟩ := hB
  rw [ht] at hP1
  have hKX := va_K.moved hvm.symm hK1
  obtain ⟨hPj, hDj⟩ := va_join (wr := []) (w1 := x_w ad (x_i1 (x_n ad))) hP hD [0] [] rfl rfl (by decide) (by decide) hk1 hFc hP1 hD1
  clear hP hD hPc hDc hFc hk1 hz1 hP1 hD1
  have hP := hPj
  have hD := hDj
  clear hPj hDj
  generalize H1 = H at hP hS ht ⊢
  refine W.widen (k := 5) (n := 2057) (by decide) (by decide) ?_
  replace hP : va_P D vcl (x_w ad (x_i1 (x_n ad))) H := hP
  replace hD : va_D (l_A s) (x_w ad (x_i1 (x_n ad))) := hD
  obtain ⟨eh, en, el⟩ := hwX
  subst eh
  refine lv_astore_n (lv' := [(1, .ref (x_h ad)), (0, .ref b)]) hx hb dL_law_12 rfl hl (by decide) rfl (fun ls hl => ?_)
  refine va_new (ci := 1) (fs := m_f0) (C := RX1) (T := TX1) (N := 10) hx hb htg m_in tyX1 tyX1_ok hown (hts (.classLink RL 18 RX1) (List.mem_of_getElem? (i := 273) rfl)) (hts (.instantiable RX1 10) (List.mem_of_getElem? (i := 274) rfl)) (hts (.initialized RX1) (List.mem_of_getElem? (i := 47) rfl)) hK hP hD hS l_hA rfl hf1 (by decide) (by decide) dL_law_13 (fun q2 H hP hD hS => ?_)
  replace hP : va_P D vcl (x_w ad (x_i1 (x_n ad)) ++ [(q2, .inr (1, m_f0))]) H := hP
  replace hD : va_D (l_A s) (x_w ad (x_i1 (x_n ad)) ++ [(q2, .inr (1, m_f0))]) := hD
  refine W.widen (k := 6) (n := 2067) (by decide) (by decide) ?_
  refine lv_dup hx hb dL_law_16 rfl ?_
  refine lv_aload_n hx hb dL_law_17 rfl (lv_at hl 1 rfl) ?_
  refine lv_iconst (v := 0) hx hb dL_law_18 (by decide) ?_
  refine vp_callSi (W.runS (As := [.ref b, .int 0]) (rest := [.ref q2, .ref q2]) ⟨hx, hb, hml, hown, htg⟩ (cL_cellM l b L xs) (cwS 2 htg (gw_s (gm 270 rfl rfl) (gm 271 rfl rfl) (gm 43 rfl rfl) (gm 272 rfl rfl)) rfl rfl rfl (by decide +kernel) ⟨by decide, by decide⟩) ⟨fun a U g mk q => ⟨q.1, va_X.moved (u := U) (U := U.calling g mk a) (Vm.Alike.refl U.vm) q.2.1, q.2.2⟩, fun U hU hW => ⟨rfl, (hX.moved hW.alike).kept (by rw [hU]; exact hS.2.1 b hbl hbA), by omega⟩⟩ rfl rfl hl.1 rfl (lv_room (Nat.le_of_ble_eq_true rfl)) dL_law_19 ⟨by decide, by decide⟩) (fun r hr0 => ?_)
  subst hr0
  have hPc := hP.sub (ws' := [(q2, .inr (1, m_f0))]) [5] rfl
  have hDc := hD.sub (ws' := [(q2, .inr (1, m_f0))]) [5] (by decide) rfl
  have hFc := va_free (wc := [(q2, .inr (1, m_f0))]) hD hS l_hA [5] rfl
  refine va_callv (va_runI (As := [.int (if 0 < L then xs 0 else 0)]) (rest := [.ref q2]) ⟨hx, hb, hml, hown, htg⟩ (cM_init l D q2 (if 0 < L then xs 0 else 0) H.size) (cwI 1 htg (gw_all (ws := .code yX1_init cX1_init 2 none :: lw_g) (fun w hw => (List.mem_cons.mp hw).elim (fun h => h ▸ gm 277 rfl rfl) id)) rfl rfl rfl (htg (.initialized RX1) (gm 47 rfl rfl)) (htg (.methodLink RL 20 yX1_init) (gm 275 rfl rfl)) (htg (.instanceMethod yX1_init) (gm 276 rfl rfl)) rfl (by decide +kernel) ⟨by decide, by decide⟩) ⟨fun a U g mk q => by obtain ⟨q0, q1, qP, qK, qD⟩ := q; exact ⟨q0, q1, qP, va_K.moved (u := U) (U := U.calling g mk a) (Vm.Alike.refl U.vm) qK, qD⟩, fun U hU hW => ⟨rfl, by rw [hU], by rw [hU]; exact hPc, va_K.moved hW.alike hK, hDc.weaken (fun _ _ _ _ => trivial)⟩⟩ rfl rfl hl.1 rfl (lv_room (Nat.le_of_ble_eq_true rfl)) dL_law_22 ⟨by decide, by decide⟩) hS (fun q _ h => hFc q h) hFc (fun am t H1 locs ht hvm hwM hB hz1 hk1 hS => ?_)
  obtain ⟨hP1, hK1, hD1⟩ := hB
  rw [ht] at hP1
  have hKM := va_K.moved hvm.symm hK1
  obtain ⟨hPj, hDj⟩ := va_join (wr := x_w ad (x_i1 (x_n ad))) (w1 := m_w am m_i1) hP hD [5] [0, 1, 2, 3, 4] rfl rfl (by decide) (by decide) hk1 hFc hP1 hD1
  clear hP hD hPc hDc hFc hk1 hz1 hP1 hD1
  have hP := hPj
  have hD := hDj
  clear hPj hDj
  generalize H1 = H at hP hS ht ⊢
  refine W.widen (k := 11) (n := 3611) (by decide) (by decide) ?_
  obtain ⟨eh2, em⟩ := hwM
  subst eh2
  refine lv_astore_n (lv' := [(2, .ref (m_h am)), (1, .ref (x_h ad)), (0, .ref b)]) hx hb dL_law_25 rfl hl (by decide) rfl (fun ls hl => ?_)
  refine lv_iconst (v := 1) hx hb dL_law_26 (by decide) ?_
  refine lv_istore_n (lv' := [(3, .int 1), (2, .ref (m_h am)), (1, .ref (x_h ad)), (0, .ref b)]) hx hb dL_law_27 rfl hl (by decide) rfl (fun ls hl => ?_)
  have hls := limV_spec (if 0 < L then xs 0 else 0)
  exact law_loop hL C0 hs hskip (n := x_n ad) rfl el (by rw [em, en]) 513 0 (x_i1 (x_n ad)) m_i1 H _ ls (by omega) (hs.1 _ (by rw [en]; exact hls.2.1) (by rw [en]; exact hls.2.2)) ⟨hP, hD, hS, hKX, hKM⟩ (lv_sub hl [3, 2, 1, 0] rfl) (by omega)
