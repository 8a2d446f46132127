abbrev XS : Type := (Nat → Int32) × (Nat → Int32) × (Nat → Int32) × (Nat → Int32) × Int32 × Int32 × Int32 × Int32
def x_u (σ : XS) : Nat → Int32 := σ.1
def x_z (σ : XS) : Nat → Int32 := σ.2.1
def x_t (σ : XS) : Nat → Int32 := σ.2.2.1
def x_r (σ : XS) : Nat → Int32 := σ.2.2.2.1
def x_la (σ : XS) : Int32 := σ.2.2.2.2.1
def x_en (σ : XS) : Int32 := σ.2.2.2.2.2.1
def x_vi (σ : XS) : Int32 := σ.2.2.2.2.2.2.1
def x_tp (σ : XS) : Int32 := σ.2.2.2.2.2.2.2
def x_su (σ : XS) (v : Nat → Int32) : XS := (v, σ.2)
def x_sz (σ : XS) (v : Nat → Int32) : XS := (σ.1, v, σ.2.2)
def x_st (σ : XS) (v : Nat → Int32) : XS := (σ.1, σ.2.1, v, σ.2.2.2)
def x_sr (σ : XS) (v : Nat → Int32) : XS := (σ.1, σ.2.1, σ.2.2.1, v, σ.2.2.2.2)
def x_sla (σ : XS) (v : Int32) : XS := (σ.1, σ.2.1, σ.2.2.1, σ.2.2.2.1, v, σ.2.2.2.2.2)
def x_sen (σ : XS) (v : Int32) : XS := (σ.1, σ.2.1, σ.2.2.1, σ.2.2.2.1, σ.2.2.2.2.1, v, σ.2.2.2.2.2.2)
def x_svi (σ : XS) (v : Int32) : XS := (σ.1, σ.2.1, σ.2.2.1, σ.2.2.2.1, σ.2.2.2.2.1, σ.2.2.2.2.2.1, v, σ.2.2.2.2.2.2.2)
def x_stp (σ : XS) (v : Int32) : XS := (σ.1, σ.2.1, σ.2.2.1, σ.2.2.2.1, σ.2.2.2.2.1, σ.2.2.2.2.2.1, σ.2.2.2.2.2.2.1, v)
theorem x_u_su (σ : XS) (v : Nat → Int32) : x_u (x_su σ v) = v := rfl
theorem x_u_sz (σ : XS) (v : Nat → Int32) : x_u (x_sz σ v) = x_u σ := rfl
theorem x_u_st (σ : XS) (v : Nat → Int32) : x_u (x_st σ v) = x_u σ := rfl
theorem x_u_sr (σ : XS) (v : Nat → Int32) : x_u (x_sr σ v) = x_u σ := rfl
theorem x_u_sla (σ : XS) (v : Int32) : x_u (x_sla σ v) = x_u σ := rfl
theorem x_u_sen (σ : XS) (v : Int32) : x_u (x_sen σ v) = x_u σ := rfl
theorem x_u_svi (σ : XS) (v : Int32) : x_u (x_svi σ v) = x_u σ := rfl
theorem x_u_stp (σ : XS) (v : Int32) : x_u (x_stp σ v) = x_u σ := rfl
theorem x_z_su (σ : XS) (v : Nat → Int32) : x_z (x_su σ v) = x_z σ := rfl
theorem x_z_sz (σ : XS) (v : Nat → Int32) : x_z (x_sz σ v) = v := rfl
theorem x_z_st (σ : XS) (v : Nat → Int32) : x_z (x_st σ v) = x_z σ := rfl
theorem x_z_sr (σ : XS) (v : Nat → Int32) : x_z (x_sr σ v) = x_z σ := rfl
theorem x_z_sla (σ : XS) (v : Int32) : x_z (x_sla σ v) = x_z σ := rfl
theorem x_z_sen (σ : XS) (v : Int32) : x_z (x_sen σ v) = x_z σ := rfl
theorem x_z_svi (σ : XS) (v : Int32) : x_z (x_svi σ v) = x_z σ := rfl
theorem x_z_stp (σ : XS) (v : Int32) : x_z (x_stp σ v) = x_z σ := rfl
theorem x_t_su (σ : XS) (v : Nat → Int32) : x_t (x_su σ v) = x_t σ := rfl
theorem x_t_sz (σ : XS) (v : Nat → Int32) : x_t (x_sz σ v) = x_t σ := rfl
theorem x_t_st (σ : XS) (v : Nat → Int32) : x_t (x_st σ v) = v := rfl
theorem x_t_sr (σ : XS) (v : Nat → Int32) : x_t (x_sr σ v) = x_t σ := rfl
theorem x_t_sla (σ : XS) (v : Int32) : x_t (x_sla σ v) = x_t σ := rfl
theorem x_t_sen (σ : XS) (v : Int32) : x_t (x_sen σ v) = x_t σ := rfl
theorem x_t_svi (σ : XS) (v : Int32) : x_t (x_svi σ v) = x_t σ := rfl
theorem x_t_stp (σ : XS) (v : Int32) : x_t (x_stp σ v) = x_t σ := rfl
theorem x_r_su (σ : XS) (v : Nat → Int32) : x_r (x_su σ v) = x_r σ := rfl
theorem x_r_sz (σ : XS) (v : Nat → Int32) : x_r (x_sz σ v) = x_r σ := rfl
theorem x_r_st (σ : XS) (v : Nat → Int32) : x_r (x_st σ v) = x_r σ := rfl
theorem x_r_sr (σ : XS) (v : Nat → Int32) : x_r (x_sr σ v) = v := rfl
theorem x_r_sla (σ : XS) (v : Int32) : x_r (x_sla σ v) = x_r σ := rfl
theorem x_r_sen (σ : XS) (v : Int32) : x_r (x_sen σ v) = x_r σ := rfl
theorem x_r_svi (σ : XS) (v : Int32) : x_r (x_svi σ v) = x_r σ := rfl
theorem x_r_stp (σ : XS) (v : Int32) : x_r (x_stp σ v) = x_r σ := rfl
theorem x_la_su (σ : XS) (v : Nat → Int32) : x_la (x_su σ v) = x_la σ := rfl
theorem x_la_sz (σ : XS) (v : Nat → Int32) : x_la (x_sz σ v) = x_la σ := rfl
theorem x_la_st (σ : XS) (v : Nat → Int32) : x_la (x_st σ v) = x_la σ := rfl
theorem x_la_sr (σ : XS) (v : Nat → Int32) : x_la (x_sr σ v) = x_la σ := rfl
theorem x_la_sla (σ : XS) (v : Int32) : x_la (x_sla σ v) = v := rfl
theorem x_la_sen (σ : XS) (v : Int32) : x_la (x_sen σ v) = x_la σ := rfl
theorem x_la_svi (σ : XS) (v : Int32) : x_la (x_svi σ v) = x_la σ := rfl
theorem x_la_stp (σ : XS) (v : Int32) : x_la (x_stp σ v) = x_la σ := rfl
theorem x_en_su (σ : XS) (v : Nat → Int32) : x_en (x_su σ v) = x_en σ := rfl
theorem x_en_sz (σ : XS) (v : Nat → Int32) : x_en (x_sz σ v) = x_en σ := rfl
theorem x_en_st (σ : XS) (v : Nat → Int32) : x_en (x_st σ v) = x_en σ := rfl
theorem x_en_sr (σ : XS) (v : Nat → Int32) : x_en (x_sr σ v) = x_en σ := rfl
theorem x_en_sla (σ : XS) (v : Int32) : x_en (x_sla σ v) = x_en σ := rfl
theorem x_en_sen (σ : XS) (v : Int32) : x_en (x_sen σ v) = v := rfl
theorem x_en_svi (σ : XS) (v : Int32) : x_en (x_svi σ v) = x_en σ := rfl
theorem x_en_stp (σ : XS) (v : Int32) : x_en (x_stp σ v) = x_en σ := rfl
theorem x_vi_su (σ : XS) (v : Nat → Int32) : x_vi (x_su σ v) = x_vi σ := rfl
theorem x_vi_sz (σ : XS) (v : Nat → Int32) : x_vi (x_sz σ v) = x_vi σ := rfl
theorem x_vi_st (σ : XS) (v : Nat → Int32) : x_vi (x_st σ v) = x_vi σ := rfl
theorem x_vi_sr (σ : XS) (v : Nat → Int32) : x_vi (x_sr σ v) = x_vi σ := rfl
theorem x_vi_sla (σ : XS) (v : Int32) : x_vi (x_sla σ v) = x_vi σ := rfl
theorem x_vi_sen (σ : XS) (v : Int32) : x_vi (x_sen σ v) = x_vi σ := rfl
theorem x_vi_svi (σ : XS) (v : Int32) : x_vi (x_svi σ v) = v := rfl
theorem x_vi_stp (σ : XS) (v : Int32) : x_vi (x_stp σ v) = x_vi σ := rfl
theorem x_tp_su (σ : XS) (v : Nat → Int32) : x_tp (x_su σ v) = x_tp σ := rfl
theorem x_tp_sz (σ : XS) (v : Nat → Int32) : x_tp (x_sz σ v) = x_tp σ := rfl
theorem x_tp_st (σ : XS) (v : Nat → Int32) : x_tp (x_st σ v) = x_tp σ := rfl
theorem x_tp_sr (σ : XS) (v : Nat → Int32) : x_tp (x_sr σ v) = x_tp σ := rfl
theorem x_tp_sla (σ : XS) (v : Int32) : x_tp (x_sla σ v) = x_tp σ := rfl
theorem x_tp_sen (σ : XS) (v : Int32) : x_tp (x_sen σ v) = x_tp σ := rfl
theorem x_tp_svi (σ : XS) (v : Int32) : x_tp (x_svi σ v) = x_tp σ := rfl
theorem x_tp_stp (σ : XS) (v : Int32) : x_tp (x_stp σ v) = v := rfl
abbrev XA : Type := Nat × Nat × Nat × Nat × Nat × ClassId × Nat × Int32
def x_h (ad : XA) : Nat := ad.1
def x_au (ad : XA) : Nat := ad.2.1
def x_az (ad : XA) : Nat := ad.2.2.1
def x_at (ad : XA) : Nat := ad.2.2.2.1
def x_ar (ad : XA) : Nat := ad.2.2.2.2.1
def x_c (ad : XA) : ClassId := ad.2.2.2.2.2.1
def x_n (ad : XA) : Nat := ad.2.2.2.2.2.2.1
def x_lim (ad : XA) : Int32 := ad.2.2.2.2.2.2.2
def x_w (ad : XA) (σ : XS) : va_W := [(x_h ad, .inr (0, [.int (x_lim ad), .ref (x_au ad), .ref (x_az ad), .ref (x_at ad), .ref (x_ar ad), .int (x_la σ), .int (x_en σ), .int (x_vi σ), .int (x_tp σ)])), (x_au ad, .inl (x_c ad, x_n ad, .inl (x_u σ))), (x_az ad, .inl (x_c ad, x_n ad, .inl (x_z σ))), (x_at ad, .inl (x_c ad, x_n ad, .inl (x_t σ))), (x_ar ad, .inl (x_c ad, x_n ad, .inl (x_r σ)))]

theorem x_in : ∀ w ∈ u_ws RX0 TX0 9, w ∈ lw_g := by
  intro w hw
  obtain ⟨k, hk, rfl⟩ := List.mem_map.mp hw
  have hk := List.mem_range.mp hk
  match k, hk with
  | 0, _ => exact gm 75 rfl rfl
  | 1, _ => exact gm 77 rfl rfl
  | 2, _ => exact gm 79 rfl rfl
  | 3, _ => exact gm 81 rfl rfl
  | 4, _ => exact gm 83 rfl rfl
  | 5, _ => exact gm 85 rfl rfl
  | 6, _ => exact gm 87 rfl rfl
  | 7, _ => exact gm 89 rfl rfl
  | 8, _ => exact gm 91 rfl rfl
  | k + 9, hk => omega

def x_C (p : Program) (s : State) (m : MethodId) (args : Array Value) (meth : Method) (c : Code) (cc : ByteArray) (nL : Nat) (ret : Option FieldType) : Prop := p.tables.exec = Jvm.exec ∧ c.code = cc ∧ c.maxLocals = nL ∧ s.vm.findClass RX0 = some m.cls ∧ (∀ w ∈ lw_g, w.before args s = true) ∧ meth.sig.returnType = ret ∧ meth.locks = false
def x_W (D : va_G) (ad : XA) (σ : XS) (A : Nat → Prop) (s : State) (H : Heap) (locs : List Loc) : Prop := va_P D vcl (x_w ad σ) H ∧ va_D A (x_w ad σ) ∧ va_S A s.heap H locs ∧ va_K D vcl [(x_c ad, .int)] s ∧ ∀ q : Nat, s.heap.size ≤ q → A q
def x_Pc (D : va_G) (ad : XA) (σ : XS) (sz : Nat) (As : List Value) : Array Value → State → Prop := va_Pc As (fun U => U.heap.size = sz ∧ va_P D vcl (x_w ad σ) U.heap ∧ va_K D vcl [(x_c ad, .int)] U ∧ va_D (fun _ => True) (x_w ad σ))
def x_B (D : va_G) (ad : XA) (A : Nat → Prop) (σ : XS) (t : State) : Prop := va_P D vcl (x_w ad σ) t.heap ∧ va_K D vcl [(x_c ad, .int)] t ∧ va_D A (x_w ad σ)
def x_A (ad : XA) (σ : XS) (sz : Nat) : Nat → Prop := va_A (x_w ad σ) sz
def x_Qi (below : List Frame) (D : va_G) (ad : XA) (A : Nat → Prop) (args : Array Value) (s : State) (post : Int32 → XS → Prop) : State → Prop := MQ below (va_Qi post (x_B D ad A) A) args s 0 0 A
def x_Qv (below : List Frame) (D : va_G) (ad : XA) (A : Nat → Prop) (args : Array Value) (s : State) (post : XS → Prop) : State → Prop := MQ below (va_Qv post (x_B D ad A) A) args s 0 0 A
def x_Mi (l : Launch) (D : va_G) (y : MethodName) (cc : ByteArray) (nL : Nat) (ret : Option FieldType) (rm : Room) (ad : XA) (As : List Value) (wp : XS → (Int32 → XS → Prop) → Prop) : Prop := ∀ (σ : XS) (sz : Nat) (post : Int32 → XS → Prop), wp σ post → Met l y (.code y cc nL ret :: lw_g) rm (x_Pc D ad σ sz As) (va_Qi post (x_B D ad (x_A ad σ sz)) (x_A ad σ sz)) 0 0 (x_A ad σ sz)
def x_Mv (l : Launch) (D : va_G) (y : MethodName) (cc : ByteArray) (nL : Nat) (ret : Option FieldType) (rm : Room) (ad : XA) (As : List Value) (wp : XS → (XS → Prop) → Prop) : Prop := ∀ (σ : XS) (sz : Nat) (post : XS → Prop), wp σ post → Met l y (.code y cc nL ret :: lw_g) rm (x_Pc D ad σ sz As) (va_Qv post (x_B D ad (x_A ad σ sz)) (x_A ad σ sz)) 0 0 (x_A ad σ sz)
theorem x_ofi {l : Launch} {D : va_G} {y : MethodName} {cc : ByteArray} {nL : Nat} {ret : Option FieldType} {rm : Room} {ad : XA} {As : List Value} {wp : XS → (Int32 → XS → Prop) → Prop} (hy : plainName y.cls = true ∧ y.cls = RX0 ∧ (lg_sl As).length ≤ nL)
    (body : ∀ {p : Program} {e : Env} {s : State} {m : MethodId} {args : Array Value} {below : List Frame} {meth : Method} {c : Code} {σ : XS} {A : Nat → Prop} {post : Int32 → XS → Prop} {ls : Array Slot}, x_C p s m args meth c cc nL ret → x_W D ad σ A s s.heap [] → wp σ post → lv_has ls nL (lv_args 0 As) → W p l e rm s m args below meth c s.heap [] 0 0 (x_Qi below D ad A args s post) (F0 m 0 ls [])) : x_Mi l D y cc nL ret rm ad As wp := by
  intro σ sz post hw
  refine Met.ofW (cc := cc) (maxL := nL) (ret := ret) hy.1 rfl ?_
  intro p e s m args below meth c s₁ B hml hv
  obtain ⟨rfl, hsz, hP, hK, hD0⟩ := hv
  have hts := atoms_spec (ws := .code y cc nL ret :: lw_g) B.pre
  have hown : s.vm.findClass y.cls = some m.cls := findClass_of_methodNamed B.named
  rw [hy.2.1] at hown
  subst hsz
  have hD := hD0.self (sz := s.heap.size)
  have hA : ∀ q : Nat, s.heap.size ≤ q → x_A ad σ s.heap.size q := fun q h => Or.inr h
  rw [lg_entry_eq]
  exact body (post := post) ⟨B.exec, B.bytes, hml, hown, fun w h => hts w (List.mem_cons_of_mem _ h), B.returns, B.notSynchronized⟩ ⟨hP, hD, va_S.rf, hK, hA⟩ hw (lv_entry As hy.2.2)
theorem x_ofv {l : Launch} {D : va_G} {y : MethodName} {cc : ByteArray} {nL : Nat} {ret : Option FieldType} {rm : Room} {ad : XA} {As : List Value} {wp : XS → (XS → Prop) → Prop} (hy : plainName y.cls = true ∧ y.cls = RX0 ∧ (lg_sl As).length ≤ nL)
    (body : ∀ {p : Program} {e : Env} {s : State} {m : MethodId} {args : Array Value} {below : List Frame} {meth : Method} {c : Code} {σ : XS} {A : Nat → Prop} {post : XS → Prop} {ls : Array Slot}, x_C p s m args meth c cc nL ret → x_W D ad σ A s s.heap [] → wp σ post → lv_has ls nL (lv_args 0 As) → W p l e rm s m args below meth c s.heap [] 0 0 (x_Qv below D ad A args s post) (F0 m 0 ls [])) : x_Mv l D y cc nL ret rm ad As wp := by
  intro σ sz post hw
  refine Met.ofW (cc := cc) (maxL := nL) (ret := ret) hy.1 rfl ?_
  intro p e s m args below meth c s₁ B hml hv
  obtain ⟨rfl, hsz, hP, hK, hD0⟩ := hv
  have hts := atoms_spec (ws := .code y cc nL ret :: lw_g) B.pre
  have hown : s.vm.findClass y.cls = some m.cls := findClass_of_methodNamed B.named
  rw [hy.2.1] at hown
  subst hsz
  have hD := hD0.self (sz := s.heap.size)
  have hA : ∀ q : Nat, s.heap.size ≤ q → x_A ad σ s.heap.size q := fun q h => Or.inr h
  rw [lg_entry_eq]
  exact body (post := post) ⟨B.exec, B.bytes, hml, hown, fun w h => hts w (List.mem_cons_of_mem _ h), B.returns, B.notSynchronized⟩ ⟨hP, hD, va_S.rf, hK, hA⟩ hw (lv_entry As hy.2.2)
/-- what the tables say of a callee of this class: its words, its descriptor -/
def x_Sv (own : String) (index : Nat) (y : MethodName) (bytes : ByteArray) (maxL : Nat) (rt : Option FieldType) (n : Nat) : Prop := GoodIn lw_g (wsV own index RX0 y (.code y bytes maxL rt :: lw_g)) ∧ (y.cls = RX0 ∧ y.cls ≠ "java/lang/invoke/MethodHandle" ∧ y.cls ≠ "java/lang/invoke/VarHandle" ∧ (parseMethodDescriptor y.desc).map (fun d => d.parameters.length) = some n)
def x_Ss (index : Nat) (y : MethodName) (bytes : ByteArray) (maxL : Nat) (rt : Option FieldType) (n : Nat) : Prop := GoodIn lw_g (wsS RX0 index y (.code y bytes maxL rt :: lw_g)) ∧ (y.cls = RX0 ∧ y.cls ≠ "java/lang/invoke/MethodHandle" ∧ y.cls ≠ "java/lang/invoke/VarHandle" ∧ (parseMethodDescriptor y.desc).map (fun d => d.parameters.length) = some n)
section xK
variable {p : Program} {l : Launch} {e : Env} {R : Room} {s : State} {m : MethodId} {args : Array Value} {below : List Frame} {meth : Method} {c : Code} {H : Heap} {locs : List Loc} {cells slots : Nat} {Q : State → Prop} {cc : ByteArray} {nL : Nat} {ret : Option FieldType} {D : va_G} {ad : XA} {σ : XS} {A : Nat → Prop} {pc : Nat} {ls : Array Slot} {rest : List Value}
theorem x_l_lim : Cond.fieldLink RX0 18 "VictimHeap" "limit" "I" ∈ lw_g := gm 66 rfl rfl
theorem x_l_u : Cond.fieldLink RX0 22 "VictimHeap" "units" "[I" ∈ lw_g := gm 67 rfl rfl
theorem x_l_z : Cond.fieldLink RX0 26 "VictimHeap" "sizes" "[I" ∈ lw_g := gm 68 rfl rfl
theorem x_l_t : Cond.fieldLink RX0 29 "VictimHeap" "states" "[I" ∈ lw_g := gm 69 rfl rfl
theorem x_l_r : Cond.fieldLink RX0 32 "VictimHeap" "arrivals" "[I" ∈ lw_g := gm 70 rfl rfl
theorem x_l_la : Cond.fieldLink RX0 41 "VictimHeap" "lastArrival" "I" ∈ lw_g := gm 71 rfl rfl
theorem x_l_en : Cond.fieldLink RX0 44 "VictimHeap" "end" "I" ∈ lw_g := gm 72 rfl rfl
theorem x_l_vi : Cond.fieldLink RX0 47 "VictimHeap" "victim" "I" ∈ lw_g := gm 73 rfl rfl
theorem x_l_tp : Cond.fieldLink RX0 50 "VictimHeap" "top" "I" ∈ lw_g := gm 74 rfl rfl
theorem x_get_lim (C : x_C p s m args meth c cc nL ret) (Wd : x_W D ad σ A s H locs) (hdg : decode cc pc = .ok (.getfield 18, 3)) (kk : W p l e R s m args below meth c H locs cells slots Q (F0 m (pc + 3) ls (.int (x_lim ad) :: rest))) : W p l e R s m args below meth c H locs cells slots Q (F0 m pc ls (.ref (x_h ad) :: rest)) :=
  va_get (D := D) (ci := 0) (v := .int (x_lim ad)) (C := RX0) (T := TX0) (N := 9) C.1 C.2.1 C.2.2.2.2.1 x_in C.2.2.2.1 Wd.2.2.2.1 Wd.1 0 rfl rfl 0 (by decide) (C.2.2.2.2.1 _ x_l_lim) (fun _ h9 => h9) rfl hdg kk
theorem x_get_u (C : x_C p s m args meth c cc nL ret) (Wd : x_W D ad σ A s H locs) (hdg : decode cc pc = .ok (.getfield 22, 3)) (kk : W p l e R s m args below meth c H locs cells slots Q (F0 m (pc + 3) ls (.ref (x_au ad) :: rest))) : W p l e R s m args below meth c H locs cells slots Q (F0 m pc ls (.ref (x_h ad) :: rest)) :=
  va_get (D := D) (ci := 0) (v := .ref (x_au ad)) (C := RX0) (T := TX0) (N := 9) C.1 C.2.1 C.2.2.2.2.1 x_in C.2.2.2.1 Wd.2.2.2.1 Wd.1 0 rfl rfl 1 (by decide) (C.2.2.2.2.1 _ x_l_u) (fun _ h9 => h9) rfl hdg kk
theorem x_get_z (C : x_C p s m args meth c cc nL ret) (Wd : x_W D ad σ A s H locs) (hdg : decode cc pc = .ok (.getfield 26, 3)) (kk : W p l e R s m args below meth c H locs cells slots Q (F0 m (pc + 3) ls (.ref (x_az ad) :: rest))) : W p l e R s m args below meth c H locs cells slots Q (F0 m pc ls (.ref (x_h ad) :: rest)) :=
  va_get (D := D) (ci := 0) (v := .ref (x_az ad)) (C := RX0) (T := TX0) (N := 9) C.1 C.2.1 C.2.2.2.2.1 x_in C.2.2.2.1 Wd.2.2.2.1 Wd.1 0 rfl rfl 2 (by decide) (C.2.2.2.2.1 _ x_l_z) (fun _ h9 => h9) rfl hdg kk
theorem x_get_t (C : x_C p s m args meth c cc nL ret) (Wd : x_W D ad σ A s H locs) (hdg : decode cc pc = .ok (.getfield 29, 3)) (kk : W p l e R s m args below meth c H locs cells slots Q (F0 m (pc + 3) ls (.ref (x_at ad) :: rest))) : W p l e R s m args below meth c H locs cells slots Q (F0 m pc ls (.ref (x_h ad) :: rest)) :=
  va_get (D := D) (ci := 0) (v := .ref (x_at ad)) (C := RX0) (T := TX0) (N := 9) C.1 C.2.1 C.2.2.2.2.1 x_in C.2.2.2.1 Wd.2.2.2.1 Wd.1 0 rfl rfl 3 (by decide) (C.2.2.2.2.1 _ x_l_t) (fun _ h9 => h9) rfl hdg kk
theorem x_get_r (C : x_C p s m args meth c cc nL ret) (Wd : x_W D ad σ A s H locs) (hdg : decode cc pc = .ok (.getfield 32, 3)) (kk : W p l e R s m args below meth c H locs cells slots Q (F0 m (pc + 3) ls (.ref (x_ar ad) :: rest))) : W p l e R s m args below meth c H locs cells slots Q (F0 m pc ls (.ref (x_h ad) :: rest)) :=
  va_get (D := D) (ci := 0) (v := .ref (x_ar ad)) (C := RX0) (T := TX0) (N := 9) C.1 C.2.1 C.2.2.2.2.1 x_in C.2.2.2.1 Wd.2.2.2.1 Wd.1 0 rfl rfl 4 (by decide) (C.2.2.2.2.1 _ x_l_r) (fun _ h9 => h9) rfl hdg kk
theorem x_get_la (C : x_C p s m args meth c cc nL ret) (Wd : x_W D ad σ A s H locs) (hdg : decode cc pc = .ok (.getfield 41, 3)) (kk : W p l e R s m args below meth c H locs cells slots Q (F0 m (pc + 3) ls (.int (x_la σ) :: rest))) : W p l e R s m args below meth c H locs cells slots Q (F0 m pc ls (.ref (x_h ad) :: rest)) :=
  va_get (D := D) (ci := 0) (v := .int (x_la σ)) (C := RX0) (T := TX0) (N := 9) C.1 C.2.1 C.2.2.2.2.1 x_in C.2.2.2.1 Wd.2.2.2.1 Wd.1 0 rfl rfl 5 (by decide) (C.2.2.2.2.1 _ x_l_la) (fun _ h9 => h9) rfl hdg kk
theorem x_put_la (C : x_C p s m args meth c cc nL ret) (Wd : x_W D ad σ A s H locs) {v : Int32} (hdg : decode cc pc = .ok (.putfield 41, 3)) (kk : ∀ (H : Heap) (locs : List Loc), x_W D ad (x_sla σ v) A s H locs → W p l e R s m args below meth c H locs cells slots Q (F0 m (pc + 3) ls rest)) : W p l e R s m args below meth c H locs cells slots Q (F0 m pc ls (.int v :: .ref (x_h ad) :: rest)) :=
  va_put (D := D) (ci := 0) (v := .int v) (ty := .int) (C := RX0) (T := TX0) (N := 9) C.1 C.2.1 C.2.2.2.2.1 x_in tyX0 tyX0_ok nmX0 C.2.2.2.1 Wd.2.2.2.1 Wd.1 Wd.2.1 Wd.2.2.1 0 rfl rfl 5 (by decide) (C.2.2.2.2.1 _ x_l_la) (fun _ h9 => h9) rfl (by decide +kernel) rfl rfl (Nat.le_of_ble_eq_true rfl) hdg (fun H locs hP hD hS => kk H locs ⟨hP, hD, hS, Wd.2.2.2.1, Wd.2.2.2.2⟩)
theorem x_get_en (C : x_C p s m args meth c cc nL ret) (Wd : x_W D ad σ A s H locs) (hdg : decode cc pc = .ok (.getfield 44, 3)) (kk : W p l e R s m args below meth c H locs cells slots Q (F0 m (pc + 3) ls (.int (x_en σ) :: rest))) : W p l e R s m args below meth c H locs cells slots Q (F0 m pc ls (.ref (x_h ad) :: rest)) :=
  va_get (D := D) (ci := 0) (v := .int (x_en σ)) (C := RX0) (T := TX0) (N := 9) C.1 C.2.1 C.2.2.2.2.1 x_in C.2.2.2.1 Wd.2.2.2.1 Wd.1 0 rfl rfl 6 (by decide) (C.2.2.2.2.1 _ x_l_en) (fun _ h9 => h9) rfl hdg kk
theorem x_put_en (C : x_C p s m args meth c cc nL ret) (Wd : x_W D ad σ A s H locs) {v : Int32} (hdg : decode cc pc = .ok (.putfield 44, 3)) (kk : ∀ (H : Heap) (locs : List Loc), x_W D ad (x_sen σ v) A s H locs → W p l e R s m args below meth c H locs cells slots Q (F0 m (pc + 3) ls rest)) : W p l e R s m args below meth c H locs cells slots Q (F0 m pc ls (.int v :: .ref (x_h ad) :: rest)) :=
  va_put (D := D) (ci := 0) (v := .int v) (ty := .int) (C := RX0) (T := TX0) (N := 9) C.1 C.2.1 C.2.2.2.2.1 x_in tyX0 tyX0_ok nmX0 C.2.2.2.1 Wd.2.2.2.1 Wd.1 Wd.2.1 Wd.2.2.1 0 rfl rfl 6 (by decide) (C.2.2.2.2.1 _ x_l_en) (fun _ h9 => h9) rfl (by decide +kernel) rfl rfl (Nat.le_of_ble_eq_true rfl) hdg (fun H locs hP hD hS => kk H locs ⟨hP, hD, hS, Wd.2.2.2.1, Wd.2.2.2.2⟩)
theorem x_get_vi (C : x_C p s m args meth c cc nL ret) (Wd : x_W D ad σ A s H locs) (hdg : decode cc pc = .ok (.getfield 47, 3)) (kk : W p l e R s m args below meth c H locs cells slots Q (F0 m (pc + 3) ls (.int (x_vi σ) :: rest))) : W p l e R s m args below meth c H locs cells slots Q (F0 m pc ls (.ref (x_h ad) :: rest)) :=
  va_get (D := D) (ci := 0) (v := .int (x_vi σ)) (C := RX0) (T := TX0) (N := 9) C.1 C.2.1 C.2.2.2.2.1 x_in C.2.2.2.1 Wd.2.2.2.1 Wd.1 0 rfl rfl 7 (by decide) (C.2.2.2.2.1 _ x_l_vi) (fun _ h9 => h9) rfl hdg kk
theorem x_put_vi (C : x_C p s m args meth c cc nL ret) (Wd : x_W D ad σ A s H locs) {v : Int32} (hdg : decode cc pc = .ok (.putfield 47, 3)) (kk : ∀ (H : Heap) (locs : List Loc), x_W D ad (x_svi σ v) A s H locs → W p l e R s m args below meth c H locs cells slots Q (F0 m (pc + 3) ls rest)) : W p l e R s m args below meth c H locs cells slots Q (F0 m pc ls (.int v :: .ref (x_h ad) :: rest)) :=
  va_put (D := D) (ci := 0) (v := .int v) (ty := .int) (C := RX0) (T := TX0) (N := 9) C.1 C.2.1 C.2.2.2.2.1 x_in tyX0 tyX0_ok nmX0 C.2.2.2.1 Wd.2.2.2.1 Wd.1 Wd.2.1 Wd.2.2.1 0 rfl rfl 7 (by decide) (C.2.2.2.2.1 _ x_l_vi) (fun _ h9 => h9) rfl (by decide +kernel) rfl rfl (Nat.le_of_ble_eq_true rfl) hdg (fun H locs hP hD hS => kk H locs ⟨hP, hD, hS, Wd.2.2.2.1, Wd.2.2.2.2⟩)
theorem x_get_tp (C : x_C p s m args meth c cc nL ret) (Wd : x_W D ad σ A s H locs) (hdg : decode cc pc = .ok (.getfield 50, 3)) (kk : W p l e R s m args below meth c H locs cells slots Q (F0 m (pc + 3) ls (.int (x_tp σ) :: rest))) : W p l e R s m args below meth c H locs cells slots Q (F0 m pc ls (.ref (x_h ad) :: rest)) :=
  va_get (D := D) (ci := 0) (v := .int (x_tp σ)) (C := RX0) (T := TX0) (N := 9) C.1 C.2.1 C.2.2.2.2.1 x_in C.2.2.2.1 Wd.2.2.2.1 Wd.1 0 rfl rfl 8 (by decide) (C.2.2.2.2.1 _ x_l_tp) (fun _ h9 => h9) rfl hdg kk
theorem x_put_tp (C : x_C p s m args meth c cc nL ret) (Wd : x_W D ad σ A s H locs) {v : Int32} (hdg : decode cc pc = .ok (.putfield 50, 3)) (kk : ∀ (H : Heap) (locs : List Loc), x_W D ad (x_stp σ v) A s H locs → W p l e R s m args below meth c H locs cells slots Q (F0 m (pc + 3) ls rest)) : W p l e R s m args below meth c H locs cells slots Q (F0 m pc ls (.int v :: .ref (x_h ad) :: rest)) :=
  va_put (D := D) (ci := 0) (v := .int v) (ty := .int) (C := RX0) (T := TX0) (N := 9) C.1 C.2.1 C.2.2.2.2.1 x_in tyX0 tyX0_ok nmX0 C.2.2.2.1 Wd.2.2.2.1 Wd.1 Wd.2.1 Wd.2.2.1 0 rfl rfl 8 (by decide) (C.2.2.2.2.1 _ x_l_tp) (fun _ h9 => h9) rfl (by decide +kernel) rfl rfl (Nat.le_of_ble_eq_true rfl) hdg (fun H locs hP hD hS => kk H locs ⟨hP, hD, hS, Wd.2.2.2.1, Wd.2.2.2.2⟩)
theorem x_ald_u (C : x_C p s m args meth c cc nL ret) (Wd : x_W D ad σ A s H locs) {i : Int32} (hin : vp_in i (x_n ad)) (hdg : decode cc pc = .ok (.iaload, 1)) (kk : W p l e R s m args below meth c H locs cells slots Q (F0 m (pc + 1) ls (.int (x_u σ i.toNatClampNeg) :: rest))) : W p l e R s m args below meth c H locs cells slots Q (F0 m pc ls (.int i :: .ref (x_au ad) :: rest)) :=
  va_iald C.1 C.2.1 Wd.2.2.2.1 Wd.1 1 0 rfl rfl hin hdg kk
theorem x_ast_u (C : x_C p s m args meth c cc nL ret) (Wd : x_W D ad σ A s H locs) {i x : Int32} (hin : vp_in i (x_n ad)) (hdg : decode cc pc = .ok (.iastore, 1)) (kk : ∀ (H : Heap) (locs : List Loc), x_W D ad (x_su σ (upd (x_u σ) i.toNatClampNeg x)) A s H locs → W p l e R s m args below meth c H locs cells slots Q (F0 m (pc + 1) ls rest)) : W p l e R s m args below meth c H locs cells slots Q (F0 m pc ls (.int x :: .int i :: .ref (x_au ad) :: rest)) :=
  va_iast C.1 C.2.1 Wd.2.2.2.1 Wd.1 Wd.2.1 Wd.2.2.1 1 0 rfl rfl hin hdg (fun H locs hP hD hS => kk H locs ⟨hP, hD, hS, Wd.2.2.2.1, Wd.2.2.2.2⟩)
theorem x_ald_z (C : x_C p s m args meth c cc nL ret) (Wd : x_W D ad σ A s H locs) {i : Int32} (hin : vp_in i (x_n ad)) (hdg : decode cc pc = .ok (.iaload, 1)) (kk : W p l e R s m args below meth c H locs cells slots Q (F0 m (pc + 1) ls (.int (x_z σ i.toNatClampNeg) :: rest))) : W p l e R s m args below meth c H locs cells slots Q (F0 m pc ls (.int i :: .ref (x_az ad) :: rest)) :=
  va_iald C.1 C.2.1 Wd.2.2.2.1 Wd.1 2 0 rfl rfl hin hdg kk
theorem x_ast_z (C : x_C p s m args meth c cc nL ret) (Wd : x_W D ad σ A s H locs) {i x : Int32} (hin : vp_in i (x_n ad)) (hdg : decode cc pc = .ok (.iastore, 1)) (kk : ∀ (H : Heap) (locs : List Loc), x_W D ad (x_sz σ (upd (x_z σ) i.toNatClampNeg x)) A s H locs → W p l e R s m args below meth c H locs cells slots Q (F0 m (pc + 1) ls rest)) : W p l e R s m args below meth c H locs cells slots Q (F0 m pc ls (.int x :: .int i :: .ref (x_az ad) :: rest)) :=
  va_iast C.1 C.2.1 Wd.2.2.2.1 Wd.1 Wd.2.1 Wd.2.2.1 2 0 rfl rfl hin hdg (fun H locs hP hD hS => kk H locs ⟨hP, hD, hS, Wd.2.2.2.1, Wd.2.2.2.2⟩)
theorem x_ald_t (C : x_C p s m args meth c cc nL ret) (Wd : x_W D ad σ A s H locs) {i : Int32} (hin : vp_in i (x_n ad)) (hdg : decode cc pc = .ok (.iaload, 1)) (kk : W p l e R s m args below meth c H locs cells slots Q (F0 m (pc + 1) ls (.int (x_t σ i.toNatClampNeg) :: rest))) : W p l e R s m args below meth c H locs cells slots Q (F0 m pc ls (.int i :: .ref (x_at ad) :: rest)) :=
  va_iald C.1 C.2.1 Wd.2.2.2.1 Wd.1 3 0 rfl rfl hin hdg kk
theorem x_ast_t (C : x_C p s m args meth c cc nL ret) (Wd : x_W D ad σ A s H locs) {i x : Int32} (hin : vp_in i (x_n ad)) (hdg : decode cc pc = .ok (.iastore, 1)) (kk : ∀ (H : Heap) (locs : List Loc), x_W D ad (x_st σ (upd (x_t σ) i.toNatClampNeg x)) A s H locs → W p l e R s m args below meth c H locs cells slots Q (F0 m (pc + 1) ls rest)) : W p l e R s m args below meth c H locs cells slots Q (F0 m pc ls (.int x :: .int i :: .ref (x_at ad) :: rest)) :=
  va_iast C.1 C.2.1 Wd.2.2.2.1 Wd.1 Wd.2.1 Wd.2.2.1 3 0 rfl rfl hin hdg (fun H locs hP hD hS => kk H locs ⟨hP, hD, hS, Wd.2.2.2.1, Wd.2.2.2.2⟩)
theorem x_ald_r (C : x_C p s m args meth c cc nL ret) (Wd : x_W D ad σ A s H locs) {i : Int32} (hin : vp_in i (x_n ad)) (hdg : decode cc pc = .ok (.iaload, 1)) (kk : W p l e R s m args below meth c H locs cells slots Q (F0 m (pc + 1) ls (.int (x_r σ i.toNatClampNeg) :: rest))) : W p l e R s m args below meth c H locs cells slots Q (F0 m pc ls (.int i :: .ref (x_ar ad) :: rest)) :=
  va_iald C.1 C.2.1 Wd.2.2.2.1 Wd.1 4 0 rfl rfl hin hdg kk
theorem x_ast_r (C : x_C p s m args meth c cc nL ret) (Wd : x_W D ad σ A s H locs) {i x : Int32} (hin : vp_in i (x_n ad)) (hdg : decode cc pc = .ok (.iastore, 1)) (kk : ∀ (H : Heap) (locs : List Loc), x_W D ad (x_sr σ (upd (x_r σ) i.toNatClampNeg x)) A s H locs → W p l e R s m args below meth c H locs cells slots Q (F0 m (pc + 1) ls rest)) : W p l e R s m args below meth c H locs cells slots Q (F0 m pc ls (.int x :: .int i :: .ref (x_ar ad) :: rest)) :=
  va_iast C.1 C.2.1 Wd.2.2.2.1 Wd.1 Wd.2.1 Wd.2.2.1 4 0 rfl rfl hin hdg (fun H locs hP hD hS => kk H locs ⟨hP, hD, hS, Wd.2.2.2.1, Wd.2.2.2.2⟩)
theorem x_iret {post : Int32 → XS → Prop} (C : x_C p s m args meth c cc nL (some .int)) (Wd : x_W D ad σ A s H locs) {v : Int32} (hf : post v σ) (hdg : decode cc pc = .ok (.ireturn, 1)) : W p l e R s m args below meth c H locs 0 0 (x_Qi below D ad A args s post) (F0 m pc ls [.int v]) :=
  W.iret (v := v) C.1 C.2.1 C.2.2.2.2.2.1 (fun t ht hW => ⟨⟨v, σ, rfl, hf, by rw [ht]; exact Wd.1, va_K.moved hW.alike Wd.2.2.2.1, Wd.2.1⟩, Wd.2.2.1.F ht⟩) Wd.2.2.1.2.2 hdg C.2.2.2.2.2.2
theorem x_zret {post : Int32 → XS → Prop} (C : x_C p s m args meth c cc nL (some .boolean)) (Wd : x_W D ad σ A s H locs) {v : Int32} (hz : v = 0 ∨ v = 1) (hf : post v σ) (hdg : decode cc pc = .ok (.ireturn, 1)) : W p l e R s m args below meth c H locs 0 0 (x_Qi below D ad A args s post) (F0 m pc ls [.int v]) :=
  W.zret (v := v) C.1 C.2.1 C.2.2.2.2.2.1 (by rcases hz with rfl | rfl <;> rfl) (fun t ht hW => ⟨⟨v, σ, rfl, hf, by rw [ht]; exact Wd.1, va_K.moved hW.alike Wd.2.2.2.1, Wd.2.1⟩, Wd.2.2.1.F ht⟩) Wd.2.2.1.2.2 hdg C.2.2.2.2.2.2
theorem x_vret {post : XS → Prop} (C : x_C p s m args meth c cc nL none) (Wd : x_W D ad σ A s H locs) (hf : post σ) (hdg : decode cc pc = .ok (.return_, 1)) : W p l e R s m args below meth c H locs 0 0 (x_Qv below D ad A args s post) (F0 m pc ls []) :=
  W.vret C.1 C.2.1 C.2.2.2.2.2.1 (fun t ht hW => ⟨⟨σ, rfl, hf, by rw [ht]; exact Wd.1, va_K.moved hW.alike Wd.2.2.2.1, Wd.2.1⟩, Wd.2.2.1.F ht⟩) Wd.2.2.1.2.2 hdg C.2.2.2.2.2.2
theorem x_calliv {y : MethodName} {bytes : ByteArray} {maxL n index : Nat} {rt : Option FieldType} {rm : Room} {As st : List Value} {wp : XS → (Int32 → XS → Prop) → Prop} {post : Int32 → XS → Prop} (C : x_C p s m args meth c cc nL ret) (Wd : x_W D ad σ A s H locs) (hM : x_Mi l D y bytes maxL rt rm ad (.ref (x_h ad) :: As) wp) (hS : x_Sv RX0 index y bytes maxL rt n) (hR : rm.cells = 0 ∧ rm.slots = 0 ∧ rm.frames + 1 ≤ R.frames ∧ 8 + (maxL + 11) + rm.locals ≤ R.locals) (hn : As.length = n) (hls : ls.size = nL) (hst : st = As.reverse ++ .ref (x_h ad) :: rest) (hsm : (rest.map fun v => v.category).sum ≤ 8) (hcs : cells ≤ R.cells ∧ slots ≤ R.slots) (hdg : decode cc pc = .ok (.invokevirtual index, 3)) (hw : wp σ post) (kk : ∀ (r : Int32) (σ : XS) (H : Heap) (locs : List Loc), post r σ → x_W D ad σ A s H locs → W p l e R s m args below meth c H locs cells slots Q (F0 m (pc + 3) ls (.int r :: rest))) : W p l e R s m args below meth c H locs cells slots Q (F0 m pc ls st) := by
  obtain ⟨hP, hD, hS0, hK, hA⟩ := Wd
  subst hst
  have hFc := va_free (wc := x_w ad σ) hD hS0 hA [0, 1, 2, 3, 4] rfl
  have hc0 : cells + 0 ≤ R.cells ∧ slots + 0 ≤ R.slots := hcs
  refine va_calli (va_runV (As := As) (rest := rest) (b := x_h ad) ⟨C.1, C.2.1, C.2.2.1, C.2.2.2.1, C.2.2.2.2.1⟩ (hM σ H.size post hw) (cwV n C.2.2.2.2.1 hS.1 rfl hR.1 hR.2.1 hS.2 hR.2.2) ⟨fun a U g mk q => by obtain ⟨q0, q1, qP, qK, qD⟩ := q; exact ⟨q0, q1, qP, va_K.moved (u := U) (U := U.calling g mk a) (Vm.Alike.refl U.vm) qK, qD⟩, va_recv hK hP (ci := 0) (q0 := 0) rfl rfl, fun U hU hW => ⟨rfl, by rw [hU], by rw [hU]; exact hP, va_K.moved hW.alike hK, hD.weaken (fun _ _ _ _ => trivial)⟩⟩ rfl hn hls rfl (lv_room hsm) hdg hc0) hS0 (fun q _ h => hFc q h) hFc (fun r u t H1 locs ht hvm hw hB hz1 hk1 hS => ?_)
  obtain ⟨hP1, hK1, hD1⟩ := hB
  rw [ht] at hP1
  exact kk r u H1 locs hw ⟨hP1, hD1.weaken (fun k q _ h => hFc q.1 h), hS, hK, hA⟩
theorem x_callis {y : MethodName} {bytes : ByteArray} {maxL n index : Nat} {rt : Option FieldType} {rm : Room} {As st : List Value} {wp : XS → (Int32 → XS → Prop) → Prop} {post : Int32 → XS → Prop} (C : x_C p s m args meth c cc nL ret) (Wd : x_W D ad σ A s H locs) (hM : x_Mi l D y bytes maxL rt rm ad As wp) (hS : x_Ss index y bytes maxL rt n) (hR : rm.cells = 0 ∧ rm.slots = 0 ∧ rm.frames + 1 ≤ R.frames ∧ 8 + (maxL + 11) + rm.locals ≤ R.locals) (hn : As.length = n) (hls : ls.size = nL) (hst : st = As.reverse ++ rest) (hsm : (rest.map fun v => v.category).sum ≤ 8) (hcs : cells ≤ R.cells ∧ slots ≤ R.slots) (hdg : decode cc pc = .ok (.invokestatic index, 3)) (hw : wp σ post) (kk : ∀ (r : Int32) (σ : XS) (H : Heap) (locs : List Loc), post r σ → x_W D ad σ A s H locs → W p l e R s m args below meth c H locs cells slots Q (F0 m (pc + 3) ls (.int r :: rest))) : W p l e R s m args below meth c H locs cells slots Q (F0 m pc ls st) := by
  obtain ⟨hP, hD, hS0, hK, hA⟩ := Wd
  subst hst
  have hFc := va_free (wc := x_w ad σ) hD hS0 hA [0, 1, 2, 3, 4] rfl
  have hc0 : cells + 0 ≤ R.cells ∧ slots + 0 ≤ R.slots := hcs
  refine va_calli (va_runS (As := As) (rest := rest) ⟨C.1, C.2.1, C.2.2.1, C.2.2.2.1, C.2.2.2.2.1⟩ (hM σ H.size post hw) (cwS n C.2.2.2.2.1 hS.1 rfl hR.1 hR.2.1 hS.2 hR.2.2) ⟨fun a U g mk q => by obtain ⟨q0, q1, qP, qK, qD⟩ := q; exact ⟨q0, q1, qP, va_K.moved (u := U) (U := U.calling g mk a) (Vm.Alike.refl U.vm) qK, qD⟩, fun U hU hW => ⟨rfl, by rw [hU], by rw [hU]; exact hP, va_K.moved hW.alike hK, hD.weaken (fun _ _ _ _ => trivial)⟩⟩ rfl hn hls rfl (lv_room hsm) hdg hc0) hS0 (fun q _ h => hFc q h) hFc (fun r u t H1 locs ht hvm hw hB hz1 hk1 hS => ?_)
  obtain ⟨hP1, hK1, hD1⟩ := hB
  rw [ht] at hP1
  exact kk r u H1 locs hw ⟨hP1, hD1.weaken (fun k q _ h => hFc q.1 h), hS, hK, hA⟩
theorem x_callvv {y : MethodName} {bytes : ByteArray} {maxL n index : Nat} {rt : Option FieldType} {rm : Room} {As st : List Value} {wp : XS → (XS → Prop) → Prop} {post : XS → Prop} (C : x_C p s m args meth c cc nL ret) (Wd : x_W D ad σ A s H locs) (hM : x_Mv l D y bytes maxL rt rm ad (.ref (x_h ad) :: As) wp) (hS : x_Sv RX0 index y bytes maxL rt n) (hR : rm.cells = 0 ∧ rm.slots = 0 ∧ rm.frames + 1 ≤ R.frames ∧ 8 + (maxL + 11) + rm.locals ≤ R.locals) (hn : As.length = n) (hls : ls.size = nL) (hst : st = As.reverse ++ .ref (x_h ad) :: rest) (hsm : (rest.map fun v => v.category).sum ≤ 8) (hcs : cells ≤ R.cells ∧ slots ≤ R.slots) (hdg : decode cc pc = .ok (.invokevirtual index, 3)) (hw : wp σ post) (kk : ∀ (σ : XS) (H : Heap) (locs : List Loc), post σ → x_W D ad σ A s H locs → W p l e R s m args below meth c H locs cells slots Q (F0 m (pc + 3) ls (rest))) : W p l e R s m args below meth c H locs cells slots Q (F0 m pc ls st) := by
  obtain ⟨hP, hD, hS0, hK, hA⟩ := Wd
  subst hst
  have hFc := va_free (wc := x_w ad σ) hD hS0 hA [0, 1, 2, 3, 4] rfl
  have hc0 : cells + 0 ≤ R.cells ∧ slots + 0 ≤ R.slots := hcs
  refine va_callv (va_runV (As := As) (rest := rest) (b := x_h ad) ⟨C.1, C.2.1, C.2.2.1, C.2.2.2.1, C.2.2.2.2.1⟩ (hM σ H.size post hw) (cwV n C.2.2.2.2.1 hS.1 rfl hR.1 hR.2.1 hS.2 hR.2.2) ⟨fun a U g mk q => by obtain ⟨q0, q1, qP, qK, qD⟩ := q; exact ⟨q0, q1, qP, va_K.moved (u := U) (U := U.calling g mk a) (Vm.Alike.refl U.vm) qK, qD⟩, va_recv hK hP (ci := 0) (q0 := 0) rfl rfl, fun U hU hW => ⟨rfl, by rw [hU], by rw [hU]; exact hP, va_K.moved hW.alike hK, hD.weaken (fun _ _ _ _ => trivial)⟩⟩ rfl hn hls rfl (lv_room hsm) hdg hc0) hS0 (fun q _ h => hFc q h) hFc (fun u t H1 locs ht hvm hw hB hz1 hk1 hS => ?_)
  obtain ⟨hP1, hK1, hD1⟩ := hB
  rw [ht] at hP1
  exact kk u H1 locs hw ⟨hP1, hD1.weaken (fun k q _ h => hFc q.1 h), hS, hK, hA⟩
theorem x_callvs {y : MethodName} {bytes : ByteArray} {maxL n index : Nat} {rt : Option FieldType} {rm : Room} {As st : List Value} {wp : XS → (XS → Prop) → Prop} {post : XS → Prop} (C : x_C p s m args meth c cc nL ret) (Wd : x_W D ad σ A s H locs) (hM : x_Mv l D y bytes maxL rt rm ad As wp) (hS : x_Ss index y bytes maxL rt n) (hR : rm.cells = 0 ∧ rm.slots = 0 ∧ rm.frames + 1 ≤ R.frames ∧ 8 + (maxL + 11) + rm.locals ≤ R.locals) (hn : As.length = n) (hls : ls.size = nL) (hst : st = As.reverse ++ rest) (hsm : (rest.map fun v => v.category).sum ≤ 8) (hcs : cells ≤ R.cells ∧ slots ≤ R.slots) (hdg : decode cc pc = .ok (.invokestatic index, 3)) (hw : wp σ post) (kk : ∀ (σ : XS) (H : Heap) (locs : List Loc), post σ → x_W D ad σ A s H locs → W p l e R s m args below meth c H locs cells slots Q (F0 m (pc + 3) ls (rest))) : W p l e R s m args below meth c H locs cells slots Q (F0 m pc ls st) := by
  obtain ⟨hP, hD, hS0, hK, hA⟩ := Wd
  subst hst
  have hFc := va_free (wc := x_w ad σ) hD hS0 hA [0, 1, 2, 3, 4] rfl
  have hc0 : cells + 0 ≤ R.cells ∧ slots + 0 ≤ R.slots := hcs
  refine va_callv (va_runS (As := As) (rest := rest) ⟨C.1, C.2.1, C.2.2.1, C.2.2.2.1, C.2.2.2.2.1⟩ (hM σ H.size post hw) (cwS n C.2.2.2.2.1 hS.1 rfl hR.1 hR.2.1 hS.2 hR.2.2) ⟨fun a U g mk q => by obtain ⟨q0, q1, qP, qK, qD⟩ := q; exact ⟨q0, q1, qP, va_K.moved (u := U) (U := U.calling g mk a) (Vm.Alike.refl U.vm) qK, qD⟩, fun U hU hW => ⟨rfl, by rw [hU], by rw [hU]; exact hP, va_K.moved hW.alike hK, hD.weaken (fun _ _ _ _ => trivial)⟩⟩ rfl hn hls rfl (lv_room hsm) hdg hc0) hS0 (fun q _ h => hFc q h) hFc (fun u t H1 locs ht hvm hw hB hz1 hk1 hS => ?_)
  obtain ⟨hP1, hK1, hD1⟩ := hB
  rw [ht] at hP1
  exact kk u H1 locs hw ⟨hP1, hD1.weaken (fun k q _ h => hFc q.1 h), hS, hK, hA⟩
end xK

section xE
variable {p : Program} {l : Launch} {e : Env} {R : Room} {s : State} {m : MethodId} {args : Array Value} {below : List Frame} {meth : Method} {c : Code} {H : Heap} {locs : List Loc} {cells slots : Nat} {Q : State → Prop} {cc : ByteArray} {nL : Nat} {ret : Option FieldType} {D : va_G} {ad : XA} {σ : XS} {A : Nat → Prop} {pc : Nat} {ls : Array Slot} {rest : List Value}
theorem x_mmax (C : x_C p s m args meth c cc nL ret) (hls : ls.size = nL) (h1 : 1 ≤ R.frames) (h2 : (rest.map fun v => v.category).sum + 13 ≤ R.locals) (h3 : cells ≤ R.cells ∧ slots ≤ R.slots) {x y : Int32} (hdg : decode cc pc = .ok (.invokestatic 15, 3)) (kk : W p l e R s m args below meth c H locs cells slots Q (F0 m (pc + 3) ls (.int (if x < y then y else x) :: rest))) : W p l e R s m args below meth c H locs cells slots Q (F0 m pc ls (.int y :: .int x :: rest)) :=
  va_mmax C.1 C.2.1 (C.2.2.1.trans hls.symm) (own := RX0) C.2.2.2.1 (C.2.2.2.2.1 _ (gm 60 rfl rfl)) (C.2.2.2.2.1 _ (gm 61 rfl rfl)) (C.2.2.2.2.1 _ (gm 45 rfl rfl)) (C.2.2.2.2.1 _ (gm 62 rfl rfl)) h1 h2 h3.1 h3.2 hdg kk
theorem x_mmin (C : x_C p s m args meth c cc nL ret) (hls : ls.size = nL) (h1 : 1 ≤ R.frames) (h2 : (rest.map fun v => v.category).sum + 13 ≤ R.locals) (h3 : cells ≤ R.cells ∧ slots ≤ R.slots) {x y : Int32} (hdg : decode cc pc = .ok (.invokestatic 9, 3)) (kk : W p l e R s m args below meth c H locs cells slots Q (F0 m (pc + 3) ls (.int (if y < x then y else x) :: rest))) : W p l e R s m args below meth c H locs cells slots Q (F0 m pc ls (.int y :: .int x :: rest)) :=
  va_mmin C.1 C.2.1 (C.2.2.1.trans hls.symm) (own := RX0) C.2.2.2.1 (C.2.2.2.2.1 _ (gm 57 rfl rfl)) (C.2.2.2.2.1 _ (gm 58 rfl rfl)) (C.2.2.2.2.1 _ (gm 45 rfl rfl)) (C.2.2.2.2.1 _ (gm 59 rfl rfl)) h1 h2 h3.1 h3.2 hdg kk
theorem x_copy_u (C : x_C p s m args meth c cc nL ret) (Wd : x_W D ad σ A s H locs) {sp dp k : Int32} (hin : ¬ sp < 0 ∧ ¬ dp < 0 ∧ ¬ k < 0 ∧ sp.toNatClampNeg + k.toNatClampNeg ≤ x_n ad ∧ dp.toNatClampNeg + k.toNatClampNeg ≤ x_n ad) (hls : ls.size = nL) (h1 : 1 ≤ R.frames) (h2 : nativeFrameWords "java/lang/System" "arraycopy" 5 + 11 ≤ R.locals) (hdg : decode cc pc = .ok (.invokestatic 153, 3)) (kk : ∀ (H : Heap) (locs : List Loc), x_W D ad (x_su σ (va_cpy (x_u σ) (x_u σ) sp.toNatClampNeg dp.toNatClampNeg k.toNatClampNeg)) A s H locs → W p l e R s m args below meth c H locs cells slots Q (F0 m (pc + 3) ls [])) : W p l e R s m args below meth c H locs cells slots Q (F0 m pc ls [.int k, .int dp, .ref (x_au ad), .int sp, .ref (x_au ad)]) :=
  va_copyi (rest := []) C.1 C.2.1 (C.2.2.1.trans hls.symm) (own := RX0) C.2.2.2.1 (C.2.2.2.2.1 _ (gm 212 rfl rfl)) (C.2.2.2.2.1 _ (gm 214 rfl rfl)) (C.2.2.2.2.1 _ (gm 213 rfl rfl)) (C.2.2.2.2.1 _ (gm 48 rfl rfl)) Wd.2.2.2.1 Wd.1 Wd.2.1 Wd.2.2.1 1 1 0 0 (ty := .int) rfl rfl rfl rfl rfl hin.1 hin.2.1 hin.2.2.1 hin.2.2.2.1 hin.2.2.2.2 (fun _ _ => rfl) h1 (by simpa using h2) hdg (fun H locs hP hD hS => kk H locs ⟨hP, hD, hS, Wd.2.2.2.1, Wd.2.2.2.2⟩)
theorem x_fillr_u (C : x_C p s m args meth c cc nL ret) (Wd : x_W D ad σ A s H locs) {lo hi v : Int32} (hin : (¬ hi < lo ∧ ¬ lo < 0 ∧ ¬ nI (x_n ad) < hi ∧ x_n ad < 2 ^ 31)) (hls : ls.size = nL) (hsm : (rest.map fun v => v.category).sum ≤ 8) (hR : 1 + 1 ≤ R.frames ∧ 8 + (5 + 11) + 22 ≤ R.locals ∧ cells ≤ R.cells ∧ slots ≤ R.slots) (hdg : decode cc pc = .ok (.invokestatic 73, 3)) (kk : ∀ (H : Heap) (locs : List Loc), x_W D ad (x_su σ (x_fl (x_u σ) lo.toNatClampNeg hi.toNatClampNeg v)) A s H locs → W p l e R s m args below meth c H locs cells slots Q (F0 m (pc + 3) ls rest)) : W p l e R s m args below meth c H locs cells slots Q (F0 m pc ls (.int v :: .int hi :: .int lo :: .ref (x_au ad) :: rest)) := by
  obtain ⟨hP, hD, hS0, hK, hA⟩ := Wd
  have hFc := va_free (wc := x_w ad σ) hD hS0 hA [0, 1, 2, 3, 4] rfl
  refine va_callv (va_runS (As := [.ref (x_au ad), .int lo, .int hi, .int v]) (rest := rest) ⟨C.1, C.2.1, C.2.2.1, C.2.2.2.1, C.2.2.2.2.1⟩ (cJm_fillr l D vcl [(x_c ad, .int)] (x_w ad σ) 1 0 rfl rfl hin H.size) (va_cwS 4 C.2.2.2.2.1 (gw_e (gm 154 rfl rfl) (gm 155 rfl rfl) (gm 46 rfl rfl) (gm 156 rfl rfl)) rfl rfl rfl (by decide +kernel) ⟨hR.1, hR.2.1⟩) ⟨fun a U g mk q => by obtain ⟨q0, q1, qP, qK, qD⟩ := q; exact ⟨q0, q1, qP, va_K.moved (u := U) (U := U.calling g mk a) (Vm.Alike.refl U.vm) qK, qD⟩, fun U hU hW => ⟨rfl, by rw [hU], by rw [hU]; exact hP, va_K.moved hW.alike hK, hD.weaken (fun _ _ _ _ => trivial)⟩⟩ rfl rfl hls rfl (lv_room hsm) hdg ⟨hR.2.2.1, hR.2.2.2⟩) hS0 (fun q _ h => hFc q h) hFc (fun u t H1 locs ht hvm hw hB hz1 hk1 hS => ?_)
  obtain ⟨hP1, hK1, hD1⟩ := hB
  rw [ht] at hP1
  exact kk H1 locs ⟨hP1, hD1.weaken (fun k q _ h => hFc q.1 h), hS, hK, hA⟩
theorem x_fill_t (C : x_C p s m args meth c cc nL ret) (Wd : x_W D ad σ A s H locs) {v : Int32} (hin : x_n ad < 2 ^ 31) (hls : ls.size = nL) (hsm : (rest.map fun v => v.category).sum ≤ 8) (hR : 0 + 1 ≤ R.frames ∧ 8 + (4 + 11) + 0 ≤ R.locals ∧ cells ≤ R.cells ∧ slots ≤ R.slots) (hdg : decode cc pc = .ok (.invokestatic 35, 3)) (kk : ∀ (H : Heap) (locs : List Loc), x_W D ad (x_st σ (x_fl (x_t σ) 0 (x_n ad) v)) A s H locs → W p l e R s m args below meth c H locs cells slots Q (F0 m (pc + 3) ls rest)) : W p l e R s m args below meth c H locs cells slots Q (F0 m pc ls (.int v :: .ref (x_at ad) :: rest)) := by
  obtain ⟨hP, hD, hS0, hK, hA⟩ := Wd
  have hFc := va_free (wc := x_w ad σ) hD hS0 hA [0, 1, 2, 3, 4] rfl
  refine va_callv (va_runS (As := [.ref (x_at ad), .int v]) (rest := rest) ⟨C.1, C.2.1, C.2.2.1, C.2.2.2.1, C.2.2.2.2.1⟩ (cJm_fill l D vcl [(x_c ad, .int)] (x_w ad σ) 3 0 rfl rfl hin H.size) (va_cwS 2 C.2.2.2.2.1 (gw_e (gm 63 rfl rfl) (gm 64 rfl rfl) (gm 46 rfl rfl) (gm 65 rfl rfl)) rfl rfl rfl (by decide +kernel) ⟨hR.1, hR.2.1⟩) ⟨fun a U g mk q => by obtain ⟨q0, q1, qP, qK, qD⟩ := q; exact ⟨q0, q1, qP, va_K.moved (u := U) (U := U.calling g mk a) (Vm.Alike.refl U.vm) qK, qD⟩, fun U hU hW => ⟨rfl, by rw [hU], by rw [hU]; exact hP, va_K.moved hW.alike hK, hD.weaken (fun _ _ _ _ => trivial)⟩⟩ rfl rfl hls rfl (lv_room hsm) hdg ⟨hR.2.2.1, hR.2.2.2⟩) hS0 (fun q _ h => hFc q h) hFc (fun u t H1 locs ht hvm hw hB hz1 hk1 hS => ?_)
  obtain ⟨hP1, hK1, hD1⟩ := hB
  rw [ht] at hP1
  exact kk H1 locs ⟨hP1, hD1.weaken (fun k q _ h => hFc q.1 h), hS, hK, hA⟩
end xE
theorem sX_unitsFor : x_Ss 53 yX0_unitsFor cX0_unitsFor 1 (some .int) 1 := ⟨gw_s (gm 99 rfl rfl) (gm 100 rfl rfl) (gm 44 rfl rfl) (gm 101 rfl rfl), by decide +kernel⟩
theorem sX_take : x_Sv RX0 57 yX0_take cX0_take 3 (some .int) 1 := ⟨gw_v (gm 102 rfl rfl) (gm 104 rfl rfl) (gm 0 rfl rfl) (gm 44 rfl rfl) (gm 105 rfl rfl), by decide +kernel⟩
theorem sX_pointerTo : x_Ss 60 yX0_pointerTo cX0_pointerTo 1 (some .int) 1 := ⟨gw_s (gm 160 rfl rfl) (gm 161 rfl rfl) (gm 44 rfl rfl) (gm 162 rfl rfl), by decide +kernel⟩
theorem sX_malloc : x_Sv RX0 63 yX0_malloc cX0_malloc 2 (some .int) 1 := ⟨gw_v (gm 167 rfl rfl) (gm 96 rfl rfl) (gm 97 rfl rfl) (gm 44 rfl rfl) (gm 98 rfl rfl), by decide +kernel⟩
theorem sX_isPointer : x_Sv RX0 66 yX0_isPointer cX0_isPointer 2 (some .boolean) 1 := ⟨gw_v (gm 168 rfl rfl) (gm 170 rfl rfl) (gm 13 rfl rfl) (gm 44 rfl rfl) (gm 171 rfl rfl), by decide +kernel⟩
theorem sX_usable : x_Sv RX0 70 yX0_usable cX0_usable 2 (some .int) 1 := ⟨gw_v (gm 176 rfl rfl) (gm 177 rfl rfl) (gm 178 rfl rfl) (gm 44 rfl rfl) (gm 179 rfl rfl), by decide +kernel⟩
theorem sX_release : x_Sv RX0 76 yX0_release cX0_release 7 none 1 := ⟨gw_v (gm 184 rfl rfl) (gm 186 rfl rfl) (gm 15 rfl rfl) (gm 44 rfl rfl) (gm 187 rfl rfl), by decide +kernel⟩
theorem sX_shorten : x_Sv RX0 80 yX0_shorten cX0_shorten 3 none 2 := ⟨gw_v (gm 200 rfl rfl) (gm 202 rfl rfl) (gm 18 rfl rfl) (gm 44 rfl rfl) (gm 203 rfl rfl), by decide +kernel⟩
theorem sX_lengthen : x_Sv RX0 84 yX0_lengthen cX0_lengthen 6 (some .boolean) 2 := ⟨gw_v (gm 204 rfl rfl) (gm 206 rfl rfl) (gm 19 rfl rfl) (gm 44 rfl rfl) (gm 207 rfl rfl), by decide +kernel⟩
theorem sX_move : x_Sv RX0 88 yX0_move cX0_move 4 (some .int) 2 := ⟨gw_v (gm 208 rfl rfl) (gm 210 rfl rfl) (gm 20 rfl rfl) (gm 44 rfl rfl) (gm 211 rfl rfl), by decide +kernel⟩
theorem sX_isAlignment : x_Ss 91 yX0_isAlignment cX0_isAlignment 1 (some .boolean) 1 := ⟨gw_s (gm 219 rfl rfl) (gm 220 rfl rfl) (gm 44 rfl rfl) (gm 221 rfl rfl), by decide +kernel⟩
theorem sX_unitsInFront : x_Ss 94 yX0_unitsInFront cX0_unitsInFront 4 (some .int) 2 := ⟨gw_s (gm 222 rfl rfl) (gm 223 rfl rfl) (gm 44 rfl rfl) (gm 224 rfl rfl), by decide +kernel⟩
theorem sX_cut : x_Sv RX0 97 yX0_cut cX0_cut 6 (some .int) 3 := ⟨gw_v (gm 122 rfl rfl) (gm 124 rfl rfl) (gm 5 rfl rfl) (gm 44 rfl rfl) (gm 125 rfl rfl), by decide +kernel⟩
theorem sX_sizeAt : x_Sv RX0 101 yX0_sizeAt cX0_sizeAt 2 (some .int) 1 := ⟨gw_v (gm 134 rfl rfl) (gm 136 rfl rfl) (gm 8 rfl rfl) (gm 44 rfl rfl) (gm 137 rfl rfl), by decide +kernel⟩
theorem sX_shrinkTop : x_Sv RX0 104 yX0_shrinkTop cX0_shrinkTop 4 none 1 := ⟨gw_v (gm 229 rfl rfl) (gm 231 rfl rfl) (gm 21 rfl rfl) (gm 44 rfl rfl) (gm 232 rfl rfl), by decide +kernel⟩
theorem sX_hasData : x_Sv RX0 107 yX0_hasData cX0_hasData 3 (some .boolean) 2 := ⟨gw_v (gm 238 rfl rfl) (gm 240 rfl rfl) (gm 22 rfl rfl) (gm 44 rfl rfl) (gm 241 rfl rfl), by decide +kernel⟩
theorem sX_isChunk : x_Sv RX0 110 yX0_isChunk cX0_isChunk 2 (some .boolean) 1 := ⟨gw_v (gm 172 rfl rfl) (gm 174 rfl rfl) (gm 14 rfl rfl) (gm 44 rfl rfl) (gm 175 rfl rfl), by decide +kernel⟩
theorem sX_isCountedBy : x_Sv RX0 113 yX0_isCountedBy cX0_isCountedBy 3 (some .boolean) 2 := ⟨gw_v (gm 258 rfl rfl) (gm 260 rfl rfl) (gm 23 rfl rfl) (gm 44 rfl rfl) (gm 261 rfl rfl), by decide +kernel⟩
theorem sX_takeSmall : x_Sv RX0 116 yX0_takeSmall cX0_takeSmall 3 (some .int) 1 := ⟨gw_v (gm 106 rfl rfl) (gm 108 rfl rfl) (gm 1 rfl rfl) (gm 44 rfl rfl) (gm 109 rfl rfl), by decide +kernel⟩
theorem sX_takeLarge : x_Sv RX0 119 yX0_takeLarge cX0_takeLarge 4 (some .int) 1 := ⟨gw_v (gm 142 rfl rfl) (gm 144 rfl rfl) (gm 10 rfl rfl) (gm 44 rfl rfl) (gm 145 rfl rfl), by decide +kernel⟩
theorem sX_takeFromTop : x_Sv RX0 122 yX0_takeFromTop cX0_takeFromTop 3 (some .int) 1 := ⟨gw_v (gm 146 rfl rfl) (gm 148 rfl rfl) (gm 11 rfl rfl) (gm 44 rfl rfl) (gm 149 rfl rfl), by decide +kernel⟩
theorem sX_bestStored : x_Sv RX0 125 yX0_bestStored cX0_bestStored 4 (some .int) 1 := ⟨gw_v (gm 110 rfl rfl) (gm 112 rfl rfl) (gm 2 rfl rfl) (gm 44 rfl rfl) (gm 113 rfl rfl), by decide +kernel⟩
theorem sX_cutForVictim : x_Sv RX0 128 yX0_cutForVictim cX0_cutForVictim 4 (some .int) 2 := ⟨gw_v (gm 138 rfl rfl) (gm 140 rfl rfl) (gm 9 rfl rfl) (gm 44 rfl rfl) (gm 141 rfl rfl), by decide +kernel⟩
theorem sX_grow : x_Sv RX0 131 yX0_grow cX0_grow 5 (some .boolean) 1 := ⟨gw_v (gm 150 rfl rfl) (gm 152 rfl rfl) (gm 12 rfl rfl) (gm 44 rfl rfl) (gm 153 rfl rfl), by decide +kernel⟩
theorem sX_lay : x_Sv RX0 134 yX0_lay cX0_lay 4 none 3 := ⟨gw_v (gm 130 rfl rfl) (gm 132 rfl rfl) (gm 7 rfl rfl) (gm 44 rfl rfl) (gm 133 rfl rfl), by decide +kernel⟩
theorem sX_isStored : x_Sv RX0 138 yX0_isStored cX0_isStored 2 (some .boolean) 1 := ⟨gw_v (gm 114 rfl rfl) (gm 116 rfl rfl) (gm 3 rfl rfl) (gm 44 rfl rfl) (gm 117 rfl rfl), by decide +kernel⟩
theorem sX_isBetter : x_Sv RX0 141 yX0_isBetter cX0_isBetter 3 (some .boolean) 2 := ⟨gw_v (gm 118 rfl rfl) (gm 120 rfl rfl) (gm 4 rfl rfl) (gm 44 rfl rfl) (gm 121 rfl rfl), by decide +kernel⟩
theorem sX_chunkBefore : x_Sv RX0 144 yX0_chunkBefore cX0_chunkBefore 3 (some .int) 1 := ⟨gw_v (gm 188 rfl rfl) (gm 190 rfl rfl) (gm 16 rfl rfl) (gm 44 rfl rfl) (gm 191 rfl rfl), by decide +kernel⟩
theorem sX_lift : x_Sv RX0 147 yX0_lift cX0_lift 3 (some .int) 1 := ⟨gw_v (gm 126 rfl rfl) (gm 128 rfl rfl) (gm 6 rfl rfl) (gm 44 rfl rfl) (gm 129 rfl rfl), by decide +kernel⟩
theorem sX_isFree : x_Sv RX0 150 yX0_isFree cX0_isFree 2 (some .boolean) 1 := ⟨gw_v (gm 192 rfl rfl) (gm 194 rfl rfl) (gm 17 rfl rfl) (gm 44 rfl rfl) (gm 195 rfl rfl), by decide +kernel⟩
