abbrev MS : Type := (Nat → Int32) × (Nat → Int32) × (Nat → Int32) × (Nat → Int32) × (Nat → Int32) × Int32 × Int32 × Int32 × Int32
def m_un (σ : MS) : Nat → Int32 := σ.1
def m_fi (σ : MS) : Nat → Int32 := σ.2.1
def m_sz (σ : MS) : Nat → Int32 := σ.2.2.1
def m_us (σ : MS) : Nat → Int32 := σ.2.2.2.1
def m_ca (σ : MS) : Nat → Int32 := σ.2.2.2.2.1
def m_en (σ : MS) : Int32 := σ.2.2.2.2.2.1
def m_ch (σ : MS) : Int32 := σ.2.2.2.2.2.2.1
def m_cl (σ : MS) : Int32 := σ.2.2.2.2.2.2.2.1
def m_vi (σ : MS) : Int32 := σ.2.2.2.2.2.2.2.2
def m_sun (σ : MS) (v : Nat → Int32) : MS := (v, σ.2)
def m_sfi (σ : MS) (v : Nat → Int32) : MS := (σ.1, v, σ.2.2)
def m_ssz (σ : MS) (v : Nat → Int32) : MS := (σ.1, σ.2.1, v, σ.2.2.2)
def m_sus (σ : MS) (v : Nat → Int32) : MS := (σ.1, σ.2.1, σ.2.2.1, v, σ.2.2.2.2)
def m_sca (σ : MS) (v : Nat → Int32) : MS := (σ.1, σ.2.1, σ.2.2.1, σ.2.2.2.1, v, σ.2.2.2.2.2)
def m_sen (σ : MS) (v : Int32) : MS := (σ.1, σ.2.1, σ.2.2.1, σ.2.2.2.1, σ.2.2.2.2.1, v, σ.2.2.2.2.2.2)
def m_sch (σ : MS) (v : Int32) : MS := (σ.1, σ.2.1, σ.2.2.1, σ.2.2.2.1, σ.2.2.2.2.1, σ.2.2.2.2.2.1, v, σ.2.2.2.2.2.2.2)
def m_scl (σ : MS) (v : Int32) : MS := (σ.1, σ.2.1, σ.2.2.1, σ.2.2.2.1, σ.2.2.2.2.1, σ.2.2.2.2.2.1, σ.2.2.2.2.2.2.1, v, σ.2.2.2.2.2.2.2.2)
def m_svi (σ : MS) (v : Int32) : MS := (σ.1, σ.2.1, σ.2.2.1, σ.2.2.2.1, σ.2.2.2.2.1, σ.2.2.2.2.2.1, σ.2.2.2.2.2.2.1, σ.2.2.2.2.2.2.2.1, v)
theorem m_un_sun (σ : MS) (v : Nat → Int32) : m_un (m_sun σ v) = v := rfl
theorem m_un_sfi (σ : MS) (v : Nat → Int32) : m_un (m_sfi σ v) = m_un σ := rfl
theorem m_un_ssz (σ : MS) (v : Nat → Int32) : m_un (m_ssz σ v) = m_un σ := rfl
theorem m_un_sus (σ : MS) (v : Nat → Int32) : m_un (m_sus σ v) = m_un σ := rfl
theorem m_un_sca (σ : MS) (v : Nat → Int32) : m_un (m_sca σ v) = m_un σ := rfl
theorem m_un_sen (σ : MS) (v : Int32) : m_un (m_sen σ v) = m_un σ := rfl
theorem m_un_sch (σ : MS) (v : Int32) : m_un (m_sch σ v) = m_un σ := rfl
theorem m_un_scl (σ : MS) (v : Int32) : m_un (m_scl σ v) = m_un σ := rfl
theorem m_un_svi (σ : MS) (v : Int32) : m_un (m_svi σ v) = m_un σ := rfl
theorem m_fi_sun (σ : MS) (v : Nat → Int32) : m_fi (m_sun σ v) = m_fi σ := rfl
theorem m_fi_sfi (σ : MS) (v : Nat → Int32) : m_fi (m_sfi σ v) = v := rfl
theorem m_fi_ssz (σ : MS) (v : Nat → Int32) : m_fi (m_ssz σ v) = m_fi σ := rfl
theorem m_fi_sus (σ : MS) (v : Nat → Int32) : m_fi (m_sus σ v) = m_fi σ := rfl
theorem m_fi_sca (σ : MS) (v : Nat → Int32) : m_fi (m_sca σ v) = m_fi σ := rfl
theorem m_fi_sen (σ : MS) (v : Int32) : m_fi (m_sen σ v) = m_fi σ := rfl
theorem m_fi_sch (σ : MS) (v : Int32) : m_fi (m_sch σ v) = m_fi σ := rfl
theorem m_fi_scl (σ : MS) (v : Int32) : m_fi (m_scl σ v) = m_fi σ := rfl
theorem m_fi_svi (σ : MS) (v : Int32) : m_fi (m_svi σ v) = m_fi σ := rfl
theorem m_sz_sun (σ : MS) (v : Nat → Int32) : m_sz (m_sun σ v) = m_sz σ := rfl
theorem m_sz_sfi (σ : MS) (v : Nat → Int32) : m_sz (m_sfi σ v) = m_sz σ := rfl
theorem m_sz_ssz (σ : MS) (v : Nat → Int32) : m_sz (m_ssz σ v) = v := rfl
theorem m_sz_sus (σ : MS) (v : Nat → Int32) : m_sz (m_sus σ v) = m_sz σ := rfl
theorem m_sz_sca (σ : MS) (v : Nat → Int32) : m_sz (m_sca σ v) = m_sz σ := rfl
theorem m_sz_sen (σ : MS) (v : Int32) : m_sz (m_sen σ v) = m_sz σ := rfl
theorem m_sz_sch (σ : MS) (v : Int32) : m_sz (m_sch σ v) = m_sz σ := rfl
theorem m_sz_scl (σ : MS) (v : Int32) : m_sz (m_scl σ v) = m_sz σ := rfl
theorem m_sz_svi (σ : MS) (v : Int32) : m_sz (m_svi σ v) = m_sz σ := rfl
theorem m_us_sun (σ : MS) (v : Nat → Int32) : m_us (m_sun σ v) = m_us σ := rfl
theorem m_us_sfi (σ : MS) (v : Nat → Int32) : m_us (m_sfi σ v) = m_us σ := rfl
theorem m_us_ssz (σ : MS) (v : Nat → Int32) : m_us (m_ssz σ v) = m_us σ := rfl
theorem m_us_sus (σ : MS) (v : Nat → Int32) : m_us (m_sus σ v) = v := rfl
theorem m_us_sca (σ : MS) (v : Nat → Int32) : m_us (m_sca σ v) = m_us σ := rfl
theorem m_us_sen (σ : MS) (v : Int32) : m_us (m_sen σ v) = m_us σ := rfl
theorem m_us_sch (σ : MS) (v : Int32) : m_us (m_sch σ v) = m_us σ := rfl
theorem m_us_scl (σ : MS) (v : Int32) : m_us (m_scl σ v) = m_us σ := rfl
theorem m_us_svi (σ : MS) (v : Int32) : m_us (m_svi σ v) = m_us σ := rfl
theorem m_ca_sun (σ : MS) (v : Nat → Int32) : m_ca (m_sun σ v) = m_ca σ := rfl
theorem m_ca_sfi (σ : MS) (v : Nat → Int32) : m_ca (m_sfi σ v) = m_ca σ := rfl
theorem m_ca_ssz (σ : MS) (v : Nat → Int32) : m_ca (m_ssz σ v) = m_ca σ := rfl
theorem m_ca_sus (σ : MS) (v : Nat → Int32) : m_ca (m_sus σ v) = m_ca σ := rfl
theorem m_ca_sca (σ : MS) (v : Nat → Int32) : m_ca (m_sca σ v) = v := rfl
theorem m_ca_sen (σ : MS) (v : Int32) : m_ca (m_sen σ v) = m_ca σ := rfl
theorem m_ca_sch (σ : MS) (v : Int32) : m_ca (m_sch σ v) = m_ca σ := rfl
theorem m_ca_scl (σ : MS) (v : Int32) : m_ca (m_scl σ v) = m_ca σ := rfl
theorem m_ca_svi (σ : MS) (v : Int32) : m_ca (m_svi σ v) = m_ca σ := rfl
theorem m_en_sun (σ : MS) (v : Nat → Int32) : m_en (m_sun σ v) = m_en σ := rfl
theorem m_en_sfi (σ : MS) (v : Nat → Int32) : m_en (m_sfi σ v) = m_en σ := rfl
theorem m_en_ssz (σ : MS) (v : Nat → Int32) : m_en (m_ssz σ v) = m_en σ := rfl
theorem m_en_sus (σ : MS) (v : Nat → Int32) : m_en (m_sus σ v) = m_en σ := rfl
theorem m_en_sca (σ : MS) (v : Nat → Int32) : m_en (m_sca σ v) = m_en σ := rfl
theorem m_en_sen (σ : MS) (v : Int32) : m_en (m_sen σ v) = v := rfl
theorem m_en_sch (σ : MS) (v : Int32) : m_en (m_sch σ v) = m_en σ := rfl
theorem m_en_scl (σ : MS) (v : Int32) : m_en (m_scl σ v) = m_en σ := rfl
theorem m_en_svi (σ : MS) (v : Int32) : m_en (m_svi σ v) = m_en σ := rfl
theorem m_ch_sun (σ : MS) (v : Nat → Int32) : m_ch (m_sun σ v) = m_ch σ := rfl
theorem m_ch_sfi (σ : MS) (v : Nat → Int32) : m_ch (m_sfi σ v) = m_ch σ := rfl
theorem m_ch_ssz (σ : MS) (v : Nat → Int32) : m_ch (m_ssz σ v) = m_ch σ := rfl
theorem m_ch_sus (σ : MS) (v : Nat → Int32) : m_ch (m_sus σ v) = m_ch σ := rfl
theorem m_ch_sca (σ : MS) (v : Nat → Int32) : m_ch (m_sca σ v) = m_ch σ := rfl
theorem m_ch_sen (σ : MS) (v : Int32) : m_ch (m_sen σ v) = m_ch σ := rfl
theorem m_ch_sch (σ : MS) (v : Int32) : m_ch (m_sch σ v) = v := rfl
theorem m_ch_scl (σ : MS) (v : Int32) : m_ch (m_scl σ v) = m_ch σ := rfl
theorem m_ch_svi (σ : MS) (v : Int32) : m_ch (m_svi σ v) = m_ch σ := rfl
theorem m_cl_sun (σ : MS) (v : Nat → Int32) : m_cl (m_sun σ v) = m_cl σ := rfl
theorem m_cl_sfi (σ : MS) (v : Nat → Int32) : m_cl (m_sfi σ v) = m_cl σ := rfl
theorem m_cl_ssz (σ : MS) (v : Nat → Int32) : m_cl (m_ssz σ v) = m_cl σ := rfl
theorem m_cl_sus (σ : MS) (v : Nat → Int32) : m_cl (m_sus σ v) = m_cl σ := rfl
theorem m_cl_sca (σ : MS) (v : Nat → Int32) : m_cl (m_sca σ v) = m_cl σ := rfl
theorem m_cl_sen (σ : MS) (v : Int32) : m_cl (m_sen σ v) = m_cl σ := rfl
theorem m_cl_sch (σ : MS) (v : Int32) : m_cl (m_sch σ v) = m_cl σ := rfl
theorem m_cl_scl (σ : MS) (v : Int32) : m_cl (m_scl σ v) = v := rfl
theorem m_cl_svi (σ : MS) (v : Int32) : m_cl (m_svi σ v) = m_cl σ := rfl
theorem m_vi_sun (σ : MS) (v : Nat → Int32) : m_vi (m_sun σ v) = m_vi σ := rfl
theorem m_vi_sfi (σ : MS) (v : Nat → Int32) : m_vi (m_sfi σ v) = m_vi σ := rfl
theorem m_vi_ssz (σ : MS) (v : Nat → Int32) : m_vi (m_ssz σ v) = m_vi σ := rfl
theorem m_vi_sus (σ : MS) (v : Nat → Int32) : m_vi (m_sus σ v) = m_vi σ := rfl
theorem m_vi_sca (σ : MS) (v : Nat → Int32) : m_vi (m_sca σ v) = m_vi σ := rfl
theorem m_vi_sen (σ : MS) (v : Int32) : m_vi (m_sen σ v) = m_vi σ := rfl
theorem m_vi_sch (σ : MS) (v : Int32) : m_vi (m_sch σ v) = m_vi σ := rfl
theorem m_vi_scl (σ : MS) (v : Int32) : m_vi (m_scl σ v) = m_vi σ := rfl
theorem m_vi_svi (σ : MS) (v : Int32) : m_vi (m_svi σ v) = v := rfl
abbrev MA : Type := Nat × Nat × Nat × Nat × Nat × Nat × ClassId × ClassId × Int32
def m_h (ad : MA) : Nat := ad.1
def m_aun (ad : MA) : Nat := ad.2.1
def m_afi (ad : MA) : Nat := ad.2.2.1
def m_asz (ad : MA) : Nat := ad.2.2.2.1
def m_aus (ad : MA) : Nat := ad.2.2.2.2.1
def m_aca (ad : MA) : Nat := ad.2.2.2.2.2.1
def m_c (ad : MA) : ClassId := ad.2.2.2.2.2.2.1
def m_cz (ad : MA) : ClassId := ad.2.2.2.2.2.2.2.1
def m_lim (ad : MA) : Int32 := ad.2.2.2.2.2.2.2.2
def m_w (ad : MA) (σ : MS) : va_W := [(m_h ad, .inr (1, [.int (m_lim ad), .int (m_en σ), .ref (m_aun ad), .int (m_ch σ), .ref (m_afi ad), .ref (m_asz ad), .ref (m_aus ad), .ref (m_aca ad), .int (m_cl σ), .int (m_vi σ)])), (m_aun ad, .inl (m_c ad, 512, .inl (m_un σ))), (m_afi ad, .inl (m_c ad, 258, .inl (m_fi σ))), (m_asz ad, .inl (m_c ad, 258, .inl (m_sz σ))), (m_aus ad, .inl (m_cz ad, 258, .inl (m_us σ))), (m_aca ad, .inl (m_c ad, 258, .inl (m_ca σ)))]

theorem m_in : ∀ w ∈ u_ws RX1 TX1 10, w ∈ lw_g := by
  intro w hw
  obtain ⟨k, hk, rfl⟩ := List.mem_map.mp hw
  have hk := List.mem_range.mp hk
  match k, hk with
  | 0, _ => exact gm 289 rfl rfl
  | 1, _ => exact gm 291 rfl rfl
  | 2, _ => exact gm 293 rfl rfl
  | 3, _ => exact gm 295 rfl rfl
  | 4, _ => exact gm 297 rfl rfl
  | 5, _ => exact gm 299 rfl rfl
  | 6, _ => exact gm 301 rfl rfl
  | 7, _ => exact gm 303 rfl rfl
  | 8, _ => exact gm 305 rfl rfl
  | 9, _ => exact gm 307 rfl rfl
  | k + 10, hk => omega

def m_C (p : Program) (s : State) (m : MethodId) (args : Array Value) (meth : Method) (c : Code) (cc : ByteArray) (nL : Nat) (ret : Option FieldType) : Prop := p.tables.exec = Jvm.exec ∧ c.code = cc ∧ c.maxLocals = nL ∧ s.vm.findClass RX1 = some m.cls ∧ (∀ w ∈ lw_g, w.before args s = true) ∧ meth.sig.returnType = ret ∧ meth.locks = false
def m_W (D : va_G) (ad : MA) (σ : MS) (A : Nat → Prop) (s : State) (H : Heap) (locs : List Loc) : Prop := va_P D vcl (m_w ad σ) H ∧ va_D A (m_w ad σ) ∧ va_S A s.heap H locs ∧ va_K D vcl [(m_c ad, .int), (m_cz ad, .boolean)] s ∧ ∀ q : Nat, s.heap.size ≤ q → A q
def m_Pc (D : va_G) (ad : MA) (σ : MS) (sz : Nat) (As : List Value) : Array Value → State → Prop := va_Pc As (fun U => U.heap.size = sz ∧ va_P D vcl (m_w ad σ) U.heap ∧ va_K D vcl [(m_c ad, .int), (m_cz ad, .boolean)] U ∧ va_D (fun _ => True) (m_w ad σ))
def m_B (D : va_G) (ad : MA) (A : Nat → Prop) (σ : MS) (t : State) : Prop := va_P D vcl (m_w ad σ) t.heap ∧ va_K D vcl [(m_c ad, .int), (m_cz ad, .boolean)] t ∧ va_D A (m_w ad σ)
def m_A (ad : MA) (σ : MS) (sz : Nat) : Nat → Prop := va_A (m_w ad σ) sz
def m_Qi (below : List Frame) (D : va_G) (ad : MA) (A : Nat → Prop) (args : Array Value) (s : State) (post : Int32 → MS → Prop) : State → Prop := MQ below (va_Qi post (m_B D ad A) A) args s 0 0 A
def m_Qv (below : List Frame) (D : va_G) (ad : MA) (A : Nat → Prop) (args : Array Value) (s : State) (post : MS → Prop) : State → Prop := MQ below (va_Qv post (m_B D ad A) A) args s 0 0 A
def m_Mi (l : Launch) (D : va_G) (y : MethodName) (cc : ByteArray) (nL : Nat) (ret : Option FieldType) (rm : Room) (ad : MA) (As : List Value) (wp : MS → (Int32 → MS → Prop) → Prop) : Prop := ∀ (σ : MS) (sz : Nat) (post : Int32 → MS → Prop), wp σ post → Met l y (.code y cc nL ret :: lw_g) rm (m_Pc D ad σ sz As) (va_Qi post (m_B D ad (m_A ad σ sz)) (m_A ad σ sz)) 0 0 (m_A ad σ sz)
def m_Mv (l : Launch) (D : va_G) (y : MethodName) (cc : ByteArray) (nL : Nat) (ret : Option FieldType) (rm : Room) (ad : MA) (As : List Value) (wp : MS → (MS → Prop) → Prop) : Prop := ∀ (σ : MS) (sz : Nat) (post : MS → Prop), wp σ post → Met l y (.code y cc nL ret :: lw_g) rm (m_Pc D ad σ sz As) (va_Qv post (m_B D ad (m_A ad σ sz)) (m_A ad σ sz)) 0 0 (m_A ad σ sz)
theorem m_ofi {l : Launch} {D : va_G} {y : MethodName} {cc : ByteArray} {nL : Nat} {ret : Option FieldType} {rm : Room} {ad : MA} {As : List Value} {wp : MS → (Int32 → MS → Prop) → Prop} (hy : plainName y.cls = true ∧ y.cls = RX1 ∧ (lg_sl As).length ≤ nL)
    (body : ∀ {p : Program} {e : Env} {s : State} {m : MethodId} {args : Array Value} {below : List Frame} {meth : Method} {c : Code} {σ : MS} {A : Nat → Prop} {post : Int32 → MS → Prop} {ls : Array Slot}, m_C p s m args meth c cc nL ret → m_W D ad σ A s s.heap [] → wp σ post → lv_has ls nL (lv_args 0 As) → W p l e rm s m args below meth c s.heap [] 0 0 (m_Qi below D ad A args s post) (F0 m 0 ls [])) : m_Mi l D y cc nL ret rm ad As wp := by
  intro σ sz post hw
  refine Met.ofW (cc := cc) (maxL := nL) (ret := ret) hy.1 rfl ?_
  intro p e s m args below meth c s₁ B hml hv
  obtain ⟨rfl, hsz, hP, hK, hD0⟩ := hv
  have hts := atoms_spec (ws := .code y cc nL ret :: lw_g) B.pre
  have hown : s.vm.findClass y.cls = some m.cls := findClass_of_methodNamed B.named
  rw [hy.2.1] at hown
  subst hsz
  have hD := hD0.self (sz := s.heap.size)
  have hA : ∀ q : Nat, s.heap.size ≤ q → m_A ad σ s.heap.size q := fun q h => Or.inr h
  rw [lg_entry_eq]
  exact body (post := post) ⟨B.exec, B.bytes, hml, hown, fun w h => hts w (List.mem_cons_of_mem _ h), B.returns, B.notSynchronized⟩ ⟨hP, hD, va_S.rf, hK, hA⟩ hw (lv_entry As hy.2.2)
theorem m_ofv {l : Launch} {D : va_G} {y : MethodName} {cc : ByteArray} {nL : Nat} {ret : Option FieldType} {rm : Room} {ad : MA} {As : List Value} {wp : MS → (MS → Prop) → Prop} (hy : plainName y.cls = true ∧ y.cls = RX1 ∧ (lg_sl As).length ≤ nL)
    (body : ∀ {p : Program} {e : Env} {s : State} {m : MethodId} {args : Array Value} {below : List Frame} {meth : Method} {c : Code} {σ : MS} {A : Nat → Prop} {post : MS → Prop} {ls : Array Slot}, m_C p s m args meth c cc nL ret → m_W D ad σ A s s.heap [] → wp σ post → lv_has ls nL (lv_args 0 As) → W p l e rm s m args below meth c s.heap [] 0 0 (m_Qv below D ad A args s post) (F0 m 0 ls [])) : m_Mv l D y cc nL ret rm ad As wp := by
  intro σ sz post hw
  refine Met.ofW (cc := cc) (maxL := nL) (ret := ret) hy.1 rfl ?_
  intro p e s m args below meth c s₁ B hml hv
  obtain ⟨rfl, hsz, hP, hK, hD0⟩ := hv
  have hts := atoms_spec (ws := .code y cc nL ret :: lw_g) B.pre
  have hown : s.vm.findClass y.cls = some m.cls := findClass_of_methodNamed B.named
  rw [hy.2.1] at hown
  subst hsz
  have hD := hD0.self (sz := s.heap.size)
  have hA : ∀ q : Nat, s.heap.size ≤ q → m_A ad σ s.heap.size q := fun q h => Or.inr h
  rw [lg_entry_eq]
  exact body (post := post) ⟨B.exec, B.bytes, hml, hown, fun w h => hts w (List.mem_cons_of_mem _ h), B.returns, B.notSynchronized⟩ ⟨hP, hD, va_S.rf, hK, hA⟩ hw (lv_entry As hy.2.2)
/-- what the tables say of a callee of this class: its words, its descriptor -/
def m_Sv (own : String) (index : Nat) (y : MethodName) (bytes : ByteArray) (maxL : Nat) (rt : Option FieldType) (n : Nat) : Prop := GoodIn lw_g (wsV own index RX1 y (.code y bytes maxL rt :: lw_g)) ∧ (y.cls = RX1 ∧ y.cls ≠ "java/lang/invoke/MethodHandle" ∧ y.cls ≠ "java/lang/invoke/VarHandle" ∧ (parseMethodDescriptor y.desc).map (fun d => d.parameters.length) = some n)
def m_Ss (index : Nat) (y : MethodName) (bytes : ByteArray) (maxL : Nat) (rt : Option FieldType) (n : Nat) : Prop := GoodIn lw_g (wsS RX1 index y (.code y bytes maxL rt :: lw_g)) ∧ (y.cls = RX1 ∧ y.cls ≠ "java/lang/invoke/MethodHandle" ∧ y.cls ≠ "java/lang/invoke/VarHandle" ∧ (parseMethodDescriptor y.desc).map (fun d => d.parameters.length) = some n)
section mK
variable {p : Program} {l : Launch} {e : Env} {R : Room} {s : State} {m : MethodId} {args : Array Value} {below : List Frame} {meth : Method} {c : Code} {H : Heap} {locs : List Loc} {cells slots : Nat} {Q : State → Prop} {cc : ByteArray} {nL : Nat} {ret : Option FieldType} {D : va_G} {ad : MA} {σ : MS} {A : Nat → Prop} {pc : Nat} {ls : Array Slot} {rest : List Value}
theorem m_l_lim : Cond.fieldLink RX1 30 "VictimHeapModel" "limit" "I" ∈ lw_g := gm 279 rfl rfl
theorem m_l_en : Cond.fieldLink RX1 40 "VictimHeapModel" "end" "I" ∈ lw_g := gm 280 rfl rfl
theorem m_l_un : Cond.fieldLink RX1 7 "VictimHeapModel" "unit" "[I" ∈ lw_g := gm 281 rfl rfl
theorem m_l_ch : Cond.fieldLink RX1 33 "VictimHeapModel" "chunks" "I" ∈ lw_g := gm 282 rfl rfl
theorem m_l_fi : Cond.fieldLink RX1 13 "VictimHeapModel" "first" "[I" ∈ lw_g := gm 283 rfl rfl
theorem m_l_sz : Cond.fieldLink RX1 16 "VictimHeapModel" "size" "[I" ∈ lw_g := gm 284 rfl rfl
theorem m_l_us : Cond.fieldLink RX1 19 "VictimHeapModel" "used" "[Z" ∈ lw_g := gm 285 rfl rfl
theorem m_l_ca : Cond.fieldLink RX1 23 "VictimHeapModel" "came" "[I" ∈ lw_g := gm 286 rfl rfl
theorem m_l_cl : Cond.fieldLink RX1 43 "VictimHeapModel" "clock" "I" ∈ lw_g := gm 287 rfl rfl
theorem m_l_vi : Cond.fieldLink RX1 26 "VictimHeapModel" "victim" "I" ∈ lw_g := gm 288 rfl rfl
theorem m_get_lim (C : m_C p s m args meth c cc nL ret) (Wd : m_W D ad σ A s H locs) (hdg : decode cc pc = .ok (.getfield 30, 3)) (kk : W p l e R s m args below meth c H locs cells slots Q (F0 m (pc + 3) ls (.int (m_lim ad) :: rest))) : W p l e R s m args below meth c H locs cells slots Q (F0 m pc ls (.ref (m_h ad) :: rest)) :=
  va_get (D := D) (ci := 1) (v := .int (m_lim ad)) (C := RX1) (T := TX1) (N := 10) C.1 C.2.1 C.2.2.2.2.1 m_in C.2.2.2.1 Wd.2.2.2.1 Wd.1 0 rfl rfl 0 (by decide) (C.2.2.2.2.1 _ m_l_lim) (fun _ h9 => h9) rfl hdg kk
theorem m_get_en (C : m_C p s m args meth c cc nL ret) (Wd : m_W D ad σ A s H locs) (hdg : decode cc pc = .ok (.getfield 40, 3)) (kk : W p l e R s m args below meth c H locs cells slots Q (F0 m (pc + 3) ls (.int (m_en σ) :: rest))) : W p l e R s m args below meth c H locs cells slots Q (F0 m pc ls (.ref (m_h ad) :: rest)) :=
  va_get (D := D) (ci := 1) (v := .int (m_en σ)) (C := RX1) (T := TX1) (N := 10) C.1 C.2.1 C.2.2.2.2.1 m_in C.2.2.2.1 Wd.2.2.2.1 Wd.1 0 rfl rfl 1 (by decide) (C.2.2.2.2.1 _ m_l_en) (fun _ h9 => h9) rfl hdg kk
theorem m_put_en (C : m_C p s m args meth c cc nL ret) (Wd : m_W D ad σ A s H locs) {v : Int32} (hdg : decode cc pc = .ok (.putfield 40, 3)) (kk : ∀ (H : Heap) (locs : List Loc), m_W D ad (m_sen σ v) A s H locs → W p l e R s m args below meth c H locs cells slots Q (F0 m (pc + 3) ls rest)) : W p l e R s m args below meth c H locs cells slots Q (F0 m pc ls (.int v :: .ref (m_h ad) :: rest)) :=
  va_put (D := D) (ci := 1) (v := .int v) (ty := .int) (C := RX1) (T := TX1) (N := 10) C.1 C.2.1 C.2.2.2.2.1 m_in tyX1 tyX1_ok nmX1 C.2.2.2.1 Wd.2.2.2.1 Wd.1 Wd.2.1 Wd.2.2.1 0 rfl rfl 1 (by decide) (C.2.2.2.2.1 _ m_l_en) (fun _ h9 => h9) rfl (by decide +kernel) rfl rfl (Nat.le_of_ble_eq_true rfl) hdg (fun H locs hP hD hS => kk H locs ⟨hP, hD, hS, Wd.2.2.2.1, Wd.2.2.2.2⟩)
theorem m_get_un (C : m_C p s m args meth c cc nL ret) (Wd : m_W D ad σ A s H locs) (hdg : decode cc pc = .ok (.getfield 7, 3)) (kk : W p l e R s m args below meth c H locs cells slots Q (F0 m (pc + 3) ls (.ref (m_aun ad) :: rest))) : W p l e R s m args below meth c H locs cells slots Q (F0 m pc ls (.ref (m_h ad) :: rest)) :=
  va_get (D := D) (ci := 1) (v := .ref (m_aun ad)) (C := RX1) (T := TX1) (N := 10) C.1 C.2.1 C.2.2.2.2.1 m_in C.2.2.2.1 Wd.2.2.2.1 Wd.1 0 rfl rfl 2 (by decide) (C.2.2.2.2.1 _ m_l_un) (fun _ h9 => h9) rfl hdg kk
theorem m_get_ch (C : m_C p s m args meth c cc nL ret) (Wd : m_W D ad σ A s H locs) (hdg : decode cc pc = .ok (.getfield 33, 3)) (kk : W p l e R s m args below meth c H locs cells slots Q (F0 m (pc + 3) ls (.int (m_ch σ) :: rest))) : W p l e R s m args below meth c H locs cells slots Q (F0 m pc ls (.ref (m_h ad) :: rest)) :=
  va_get (D := D) (ci := 1) (v := .int (m_ch σ)) (C := RX1) (T := TX1) (N := 10) C.1 C.2.1 C.2.2.2.2.1 m_in C.2.2.2.1 Wd.2.2.2.1 Wd.1 0 rfl rfl 3 (by decide) (C.2.2.2.2.1 _ m_l_ch) (fun _ h9 => h9) rfl hdg kk
theorem m_put_ch (C : m_C p s m args meth c cc nL ret) (Wd : m_W D ad σ A s H locs) {v : Int32} (hdg : decode cc pc = .ok (.putfield 33, 3)) (kk : ∀ (H : Heap) (locs : List Loc), m_W D ad (m_sch σ v) A s H locs → W p l e R s m args below meth c H locs cells slots Q (F0 m (pc + 3) ls rest)) : W p l e R s m args below meth c H locs cells slots Q (F0 m pc ls (.int v :: .ref (m_h ad) :: rest)) :=
  va_put (D := D) (ci := 1) (v := .int v) (ty := .int) (C := RX1) (T := TX1) (N := 10) C.1 C.2.1 C.2.2.2.2.1 m_in tyX1 tyX1_ok nmX1 C.2.2.2.1 Wd.2.2.2.1 Wd.1 Wd.2.1 Wd.2.2.1 0 rfl rfl 3 (by decide) (C.2.2.2.2.1 _ m_l_ch) (fun _ h9 => h9) rfl (by decide +kernel) rfl rfl (Nat.le_of_ble_eq_true rfl) hdg (fun H locs hP hD hS => kk H locs ⟨hP, hD, hS, Wd.2.2.2.1, Wd.2.2.2.2⟩)
theorem m_get_fi (C : m_C p s m args meth c cc nL ret) (Wd : m_W D ad σ A s H locs) (hdg : decode cc pc = .ok (.getfield 13, 3)) (kk : W p l e R s m args below meth c H locs cells slots Q (F0 m (pc + 3) ls (.ref (m_afi ad) :: rest))) : W p l e R s m args below meth c H locs cells slots Q (F0 m pc ls (.ref (m_h ad) :: rest)) :=
  va_get (D := D) (ci := 1) (v := .ref (m_afi ad)) (C := RX1) (T := TX1) (N := 10) C.1 C.2.1 C.2.2.2.2.1 m_in C.2.2.2.1 Wd.2.2.2.1 Wd.1 0 rfl rfl 4 (by decide) (C.2.2.2.2.1 _ m_l_fi) (fun _ h9 => h9) rfl hdg kk
theorem m_get_sz (C : m_C p s m args meth c cc nL ret) (Wd : m_W D ad σ A s H locs) (hdg : decode cc pc = .ok (.getfield 16, 3)) (kk : W p l e R s m args below meth c H locs cells slots Q (F0 m (pc + 3) ls (.ref (m_asz ad) :: rest))) : W p l e R s m args below meth c H locs cells slots Q (F0 m pc ls (.ref (m_h ad) :: rest)) :=
  va_get (D := D) (ci := 1) (v := .ref (m_asz ad)) (C := RX1) (T := TX1) (N := 10) C.1 C.2.1 C.2.2.2.2.1 m_in C.2.2.2.1 Wd.2.2.2.1 Wd.1 0 rfl rfl 5 (by decide) (C.2.2.2.2.1 _ m_l_sz) (fun _ h9 => h9) rfl hdg kk
theorem m_get_us (C : m_C p s m args meth c cc nL ret) (Wd : m_W D ad σ A s H locs) (hdg : decode cc pc = .ok (.getfield 19, 3)) (kk : W p l e R s m args below meth c H locs cells slots Q (F0 m (pc + 3) ls (.ref (m_aus ad) :: rest))) : W p l e R s m args below meth c H locs cells slots Q (F0 m pc ls (.ref (m_h ad) :: rest)) :=
  va_get (D := D) (ci := 1) (v := .ref (m_aus ad)) (C := RX1) (T := TX1) (N := 10) C.1 C.2.1 C.2.2.2.2.1 m_in C.2.2.2.1 Wd.2.2.2.1 Wd.1 0 rfl rfl 6 (by decide) (C.2.2.2.2.1 _ m_l_us) (fun _ h9 => h9) rfl hdg kk
theorem m_get_ca (C : m_C p s m args meth c cc nL ret) (Wd : m_W D ad σ A s H locs) (hdg : decode cc pc = .ok (.getfield 23, 3)) (kk : W p l e R s m args below meth c H locs cells slots Q (F0 m (pc + 3) ls (.ref (m_aca ad) :: rest))) : W p l e R s m args below meth c H locs cells slots Q (F0 m pc ls (.ref (m_h ad) :: rest)) :=
  va_get (D := D) (ci := 1) (v := .ref (m_aca ad)) (C := RX1) (T := TX1) (N := 10) C.1 C.2.1 C.2.2.2.2.1 m_in C.2.2.2.1 Wd.2.2.2.1 Wd.1 0 rfl rfl 7 (by decide) (C.2.2.2.2.1 _ m_l_ca) (fun _ h9 => h9) rfl hdg kk
theorem m_get_cl (C : m_C p s m args meth c cc nL ret) (Wd : m_W D ad σ A s H locs) (hdg : decode cc pc = .ok (.getfield 43, 3)) (kk : W p l e R s m args below meth c H locs cells slots Q (F0 m (pc + 3) ls (.int (m_cl σ) :: rest))) : W p l e R s m args below meth c H locs cells slots Q (F0 m pc ls (.ref (m_h ad) :: rest)) :=
  va_get (D := D) (ci := 1) (v := .int (m_cl σ)) (C := RX1) (T := TX1) (N := 10) C.1 C.2.1 C.2.2.2.2.1 m_in C.2.2.2.1 Wd.2.2.2.1 Wd.1 0 rfl rfl 8 (by decide) (C.2.2.2.2.1 _ m_l_cl) (fun _ h9 => h9) rfl hdg kk
theorem m_put_cl (C : m_C p s m args meth c cc nL ret) (Wd : m_W D ad σ A s H locs) {v : Int32} (hdg : decode cc pc = .ok (.putfield 43, 3)) (kk : ∀ (H : Heap) (locs : List Loc), m_W D ad (m_scl σ v) A s H locs → W p l e R s m args below meth c H locs cells slots Q (F0 m (pc + 3) ls rest)) : W p l e R s m args below meth c H locs cells slots Q (F0 m pc ls (.int v :: .ref (m_h ad) :: rest)) :=
  va_put (D := D) (ci := 1) (v := .int v) (ty := .int) (C := RX1) (T := TX1) (N := 10) C.1 C.2.1 C.2.2.2.2.1 m_in tyX1 tyX1_ok nmX1 C.2.2.2.1 Wd.2.2.2.1 Wd.1 Wd.2.1 Wd.2.2.1 0 rfl rfl 8 (by decide) (C.2.2.2.2.1 _ m_l_cl) (fun _ h9 => h9) rfl (by decide +kernel) rfl rfl (Nat.le_of_ble_eq_true rfl) hdg (fun H locs hP hD hS => kk H locs ⟨hP, hD, hS, Wd.2.2.2.1, Wd.2.2.2.2⟩)
theorem m_get_vi (C : m_C p s m args meth c cc nL ret) (Wd : m_W D ad σ A s H locs) (hdg : decode cc pc = .ok (.getfield 26, 3)) (kk : W p l e R s m args below meth c H locs cells slots Q (F0 m (pc + 3) ls (.int (m_vi σ) :: rest))) : W p l e R s m args below meth c H locs cells slots Q (F0 m pc ls (.ref (m_h ad) :: rest)) :=
  va_get (D := D) (ci := 1) (v := .int (m_vi σ)) (C := RX1) (T := TX1) (N := 10) C.1 C.2.1 C.2.2.2.2.1 m_in C.2.2.2.1 Wd.2.2.2.1 Wd.1 0 rfl rfl 9 (by decide) (C.2.2.2.2.1 _ m_l_vi) (fun _ h9 => h9) rfl hdg kk
theorem m_put_vi (C : m_C p s m args meth c cc nL ret) (Wd : m_W D ad σ A s H locs) {v : Int32} (hdg : decode cc pc = .ok (.putfield 26, 3)) (kk : ∀ (H : Heap) (locs : List Loc), m_W D ad (m_svi σ v) A s H locs → W p l e R s m args below meth c H locs cells slots Q (F0 m (pc + 3) ls rest)) : W p l e R s m args below meth c H locs cells slots Q (F0 m pc ls (.int v :: .ref (m_h ad) :: rest)) :=
  va_put (D := D) (ci := 1) (v := .int v) (ty := .int) (C := RX1) (T := TX1) (N := 10) C.1 C.2.1 C.2.2.2.2.1 m_in tyX1 tyX1_ok nmX1 C.2.2.2.1 Wd.2.2.2.1 Wd.1 Wd.2.1 Wd.2.2.1 0 rfl rfl 9 (by decide) (C.2.2.2.2.1 _ m_l_vi) (fun _ h9 => h9) rfl (by decide +kernel) rfl rfl (Nat.le_of_ble_eq_true rfl) hdg (fun H locs hP hD hS => kk H locs ⟨hP, hD, hS, Wd.2.2.2.1, Wd.2.2.2.2⟩)
theorem m_ald_un (C : m_C p s m args meth c cc nL ret) (Wd : m_W D ad σ A s H locs) {i : Int32} (hin : vp_in i 512) (hdg : decode cc pc = .ok (.iaload, 1)) (kk : W p l e R s m args below meth c H locs cells slots Q (F0 m (pc + 1) ls (.int (m_un σ i.toNatClampNeg) :: rest))) : W p l e R s m args below meth c H locs cells slots Q (F0 m pc ls (.int i :: .ref (m_aun ad) :: rest)) :=
  va_iald C.1 C.2.1 Wd.2.2.2.1 Wd.1 1 0 rfl rfl hin hdg kk
theorem m_ast_un (C : m_C p s m args meth c cc nL ret) (Wd : m_W D ad σ A s H locs) {i x : Int32} (hin : vp_in i 512) (hdg : decode cc pc = .ok (.iastore, 1)) (kk : ∀ (H : Heap) (locs : List Loc), m_W D ad (m_sun σ (upd (m_un σ) i.toNatClampNeg x)) A s H locs → W p l e R s m args below meth c H locs cells slots Q (F0 m (pc + 1) ls rest)) : W p l e R s m args below meth c H locs cells slots Q (F0 m pc ls (.int x :: .int i :: .ref (m_aun ad) :: rest)) :=
  va_iast C.1 C.2.1 Wd.2.2.2.1 Wd.1 Wd.2.1 Wd.2.2.1 1 0 rfl rfl hin hdg (fun H locs hP hD hS => kk H locs ⟨hP, hD, hS, Wd.2.2.2.1, Wd.2.2.2.2⟩)
theorem m_ald_fi (C : m_C p s m args meth c cc nL ret) (Wd : m_W D ad σ A s H locs) {i : Int32} (hin : vp_in i 258) (hdg : decode cc pc = .ok (.iaload, 1)) (kk : W p l e R s m args below meth c H locs cells slots Q (F0 m (pc + 1) ls (.int (m_fi σ i.toNatClampNeg) :: rest))) : W p l e R s m args below meth c H locs cells slots Q (F0 m pc ls (.int i :: .ref (m_afi ad) :: rest)) :=
  va_iald C.1 C.2.1 Wd.2.2.2.1 Wd.1 2 0 rfl rfl hin hdg kk
theorem m_ast_fi (C : m_C p s m args meth c cc nL ret) (Wd : m_W D ad σ A s H locs) {i x : Int32} (hin : vp_in i 258) (hdg : decode cc pc = .ok (.iastore, 1)) (kk : ∀ (H : Heap) (locs : List Loc), m_W D ad (m_sfi σ (upd (m_fi σ) i.toNatClampNeg x)) A s H locs → W p l e R s m args below meth c H locs cells slots Q (F0 m (pc + 1) ls rest)) : W p l e R s m args below meth c H locs cells slots Q (F0 m pc ls (.int x :: .int i :: .ref (m_afi ad) :: rest)) :=
  va_iast C.1 C.2.1 Wd.2.2.2.1 Wd.1 Wd.2.1 Wd.2.2.1 2 0 rfl rfl hin hdg (fun H locs hP hD hS => kk H locs ⟨hP, hD, hS, Wd.2.2.2.1, Wd.2.2.2.2⟩)
theorem m_ald_sz (C : m_C p s m args meth c cc nL ret) (Wd : m_W D ad σ A s H locs) {i : Int32} (hin : vp_in i 258) (hdg : decode cc pc = .ok (.iaload, 1)) (kk : W p l e R s m args below meth c H locs cells slots Q (F0 m (pc + 1) ls (.int (m_sz σ i.toNatClampNeg) :: rest))) : W p l e R s m args below meth c H locs cells slots Q (F0 m pc ls (.int i :: .ref (m_asz ad) :: rest)) :=
  va_iald C.1 C.2.1 Wd.2.2.2.1 Wd.1 3 0 rfl rfl hin hdg kk
theorem m_ast_sz (C : m_C p s m args meth c cc nL ret) (Wd : m_W D ad σ A s H locs) {i x : Int32} (hin : vp_in i 258) (hdg : decode cc pc = .ok (.iastore, 1)) (kk : ∀ (H : Heap) (locs : List Loc), m_W D ad (m_ssz σ (upd (m_sz σ) i.toNatClampNeg x)) A s H locs → W p l e R s m args below meth c H locs cells slots Q (F0 m (pc + 1) ls rest)) : W p l e R s m args below meth c H locs cells slots Q (F0 m pc ls (.int x :: .int i :: .ref (m_asz ad) :: rest)) :=
  va_iast C.1 C.2.1 Wd.2.2.2.1 Wd.1 Wd.2.1 Wd.2.2.1 3 0 rfl rfl hin hdg (fun H locs hP hD hS => kk H locs ⟨hP, hD, hS, Wd.2.2.2.1, Wd.2.2.2.2⟩)
theorem m_ald_us (C : m_C p s m args meth c cc nL ret) (Wd : m_W D ad σ A s H locs) {i : Int32} (hin : vp_in i 258) (hdg : decode cc pc = .ok (.baload, 1)) (kk : W p l e R s m args below meth c H locs cells slots Q (F0 m (pc + 1) ls (.int (m_us σ i.toNatClampNeg) :: rest))) : W p l e R s m args below meth c H locs cells slots Q (F0 m pc ls (.int i :: .ref (m_aus ad) :: rest)) :=
  va_zald C.1 C.2.1 Wd.2.2.2.1 Wd.1 4 1 rfl rfl hin hdg kk
theorem m_ast_us (C : m_C p s m args meth c cc nL ret) (Wd : m_W D ad σ A s H locs) {i x y : Int32} (hin : vp_in i 258) (hy : vp_nar .boolean x = y) (hdg : decode cc pc = .ok (.bastore, 1)) (kk : ∀ (H : Heap) (locs : List Loc), m_W D ad (m_sus σ (upd (m_us σ) i.toNatClampNeg y)) A s H locs → W p l e R s m args below meth c H locs cells slots Q (F0 m (pc + 1) ls rest)) : W p l e R s m args below meth c H locs cells slots Q (F0 m pc ls (.int x :: .int i :: .ref (m_aus ad) :: rest)) := by
  subst hy
  exact va_zast C.1 C.2.1 Wd.2.2.2.1 Wd.1 Wd.2.1 Wd.2.2.1 4 1 rfl rfl hin hdg (fun H locs hP hD hS => kk H locs ⟨hP, hD, hS, Wd.2.2.2.1, Wd.2.2.2.2⟩)
theorem m_ald_ca (C : m_C p s m args meth c cc nL ret) (Wd : m_W D ad σ A s H locs) {i : Int32} (hin : vp_in i 258) (hdg : decode cc pc = .ok (.iaload, 1)) (kk : W p l e R s m args below meth c H locs cells slots Q (F0 m (pc + 1) ls (.int (m_ca σ i.toNatClampNeg) :: rest))) : W p l e R s m args below meth c H locs cells slots Q (F0 m pc ls (.int i :: .ref (m_aca ad) :: rest)) :=
  va_iald C.1 C.2.1 Wd.2.2.2.1 Wd.1 5 0 rfl rfl hin hdg kk
theorem m_ast_ca (C : m_C p s m args meth c cc nL ret) (Wd : m_W D ad σ A s H locs) {i x : Int32} (hin : vp_in i 258) (hdg : decode cc pc = .ok (.iastore, 1)) (kk : ∀ (H : Heap) (locs : List Loc), m_W D ad (m_sca σ (upd (m_ca σ) i.toNatClampNeg x)) A s H locs → W p l e R s m args below meth c H locs cells slots Q (F0 m (pc + 1) ls rest)) : W p l e R s m args below meth c H locs cells slots Q (F0 m pc ls (.int x :: .int i :: .ref (m_aca ad) :: rest)) :=
  va_iast C.1 C.2.1 Wd.2.2.2.1 Wd.1 Wd.2.1 Wd.2.2.1 5 0 rfl rfl hin hdg (fun H locs hP hD hS => kk H locs ⟨hP, hD, hS, Wd.2.2.2.1, Wd.2.2.2.2⟩)
theorem m_iret {post : Int32 → MS → Prop} (C : m_C p s m args meth c cc nL (some .int)) (Wd : m_W D ad σ A s H locs) {v : Int32} (hf : post v σ) (hdg : decode cc pc = .ok (.ireturn, 1)) : W p l e R s m args below meth c H locs 0 0 (m_Qi below D ad A args s post) (F0 m pc ls [.int v]) :=
  W.iret (v := v) C.1 C.2.1 C.2.2.2.2.2.1 (fun t ht hW => ⟨⟨v, σ, rfl, hf, by rw [ht]; exact Wd.1, va_K.moved hW.alike Wd.2.2.2.1, Wd.2.1⟩, Wd.2.2.1.F ht⟩) Wd.2.2.1.2.2 hdg C.2.2.2.2.2.2
theorem m_zret {post : Int32 → MS → Prop} (C : m_C p s m args meth c cc nL (some .boolean)) (Wd : m_W D ad σ A s H locs) {v : Int32} (hz : v = 0 ∨ v = 1) (hf : post v σ) (hdg : decode cc pc = .ok (.ireturn, 1)) : W p l e R s m args below meth c H locs 0 0 (m_Qi below D ad A args s post) (F0 m pc ls [.int v]) :=
  W.zret (v := v) C.1 C.2.1 C.2.2.2.2.2.1 (by rcases hz with rfl | rfl <;> rfl) (fun t ht hW => ⟨⟨v, σ, rfl, hf, by rw [ht]; exact Wd.1, va_K.moved hW.alike Wd.2.2.2.1, Wd.2.1⟩, Wd.2.2.1.F ht⟩) Wd.2.2.1.2.2 hdg C.2.2.2.2.2.2
theorem m_vret {post : MS → Prop} (C : m_C p s m args meth c cc nL none) (Wd : m_W D ad σ A s H locs) (hf : post σ) (hdg : decode cc pc = .ok (.return_, 1)) : W p l e R s m args below meth c H locs 0 0 (m_Qv below D ad A args s post) (F0 m pc ls []) :=
  W.vret C.1 C.2.1 C.2.2.2.2.2.1 (fun t ht hW => ⟨⟨σ, rfl, hf, by rw [ht]; exact Wd.1, va_K.moved hW.alike Wd.2.2.2.1, Wd.2.1⟩, Wd.2.2.1.F ht⟩) Wd.2.2.1.2.2 hdg C.2.2.2.2.2.2
theorem m_calliv {y : MethodName} {bytes : ByteArray} {maxL n index : Nat} {rt : Option FieldType} {rm : Room} {As st : List Value} {wp : MS → (Int32 → MS → Prop) → Prop} {post : Int32 → MS → Prop} (C : m_C p s m args meth c cc nL ret) (Wd : m_W D ad σ A s H locs) (hM : m_Mi l D y bytes maxL rt rm ad (.ref (m_h ad) :: As) wp) (hS : m_Sv RX1 index y bytes maxL rt n) (hR : rm.cells = 0 ∧ rm.slots = 0 ∧ rm.frames + 1 ≤ R.frames ∧ 8 + (maxL + 11) + rm.locals ≤ R.locals) (hn : As.length = n) (hls : ls.size = nL) (hst : st = As.reverse ++ .ref (m_h ad) :: rest) (hsm : (rest.map fun v => v.category).sum ≤ 8) (hcs : cells ≤ R.cells ∧ slots ≤ R.slots) (hdg : decode cc pc = .ok (.invokevirtual index, 3)) (hw : wp σ post) (kk : ∀ (r : Int32) (σ : MS) (H : Heap) (locs : List Loc), post r σ → m_W D ad σ A s H locs → W p l e R s m args below meth c H locs cells slots Q (F0 m (pc + 3) ls (.int r :: rest))) : W p l e R s m args below meth c H locs cells slots Q (F0 m pc ls st) := by
  obtain ⟨hP, hD, hS0, hK, hA⟩ := Wd
  subst hst
  have hFc := va_free (wc := m_w ad σ) hD hS0 hA [0, 1, 2, 3, 4, 5] rfl
  have hc0 : cells + 0 ≤ R.cells ∧ slots + 0 ≤ R.slots := hcs
  refine va_calli (va_runV (As := As) (rest := rest) (b := m_h ad) ⟨C.1, C.2.1, C.2.2.1, C.2.2.2.1, C.2.2.2.2.1⟩ (hM σ H.size post hw) (cwV n C.2.2.2.2.1 hS.1 rfl hR.1 hR.2.1 hS.2 hR.2.2) ⟨fun a U g mk q => by obtain ⟨q0, q1, qP, qK, qD⟩ := q; exact ⟨q0, q1, qP, va_K.moved (u := U) (U := U.calling g mk a) (Vm.Alike.refl U.vm) qK, qD⟩, va_recv hK hP (ci := 1) (q0 := 0) rfl rfl, fun U hU hW => ⟨rfl, by rw [hU], by rw [hU]; exact hP, va_K.moved hW.alike hK, hD.weaken (fun _ _ _ _ => trivial)⟩⟩ rfl hn hls rfl (lv_room hsm) hdg hc0) hS0 (fun q _ h => hFc q h) hFc (fun r u t H1 locs ht hvm hw hB hz1 hk1 hS => ?_)
  obtain ⟨hP1, hK1, hD1⟩ := hB
  rw [ht] at hP1
  exact kk r u H1 locs hw ⟨hP1, hD1.weaken (fun k q _ h => hFc q.1 h), hS, hK, hA⟩
theorem m_callis {y : MethodName} {bytes : ByteArray} {maxL n index : Nat} {rt : Option FieldType} {rm : Room} {As st : List Value} {wp : MS → (Int32 → MS → Prop) → Prop} {post : Int32 → MS → Prop} (C : m_C p s m args meth c cc nL ret) (Wd : m_W D ad σ A s H locs) (hM : m_Mi l D y bytes maxL rt rm ad As wp) (hS : m_Ss index y bytes maxL rt n) (hR : rm.cells = 0 ∧ rm.slots = 0 ∧ rm.frames + 1 ≤ R.frames ∧ 8 + (maxL + 11) + rm.locals ≤ R.locals) (hn : As.length = n) (hls : ls.size = nL) (hst : st = As.reverse ++ rest) (hsm : (rest.map fun v => v.category).sum ≤ 8) (hcs : cells ≤ R.cells ∧ slots ≤ R.slots) (hdg : decode cc pc = .ok (.invokestatic index, 3)) (hw : wp σ post) (kk : ∀ (r : Int32) (σ : MS) (H : Heap) (locs : List Loc), post r σ → m_W D ad σ A s H locs → W p l e R s m args below meth c H locs cells slots Q (F0 m (pc + 3) ls (.int r :: rest))) : W p l e R s m args below meth c H locs cells slots Q (F0 m pc ls st) := by
  obtain ⟨hP, hD, hS0, hK, hA⟩ := Wd
  subst hst
  have hFc := va_free (wc := m_w ad σ) hD hS0 hA [0, 1, 2, 3, 4, 5] rfl
  have hc0 : cells + 0 ≤ R.cells ∧ slots + 0 ≤ R.slots := hcs
  refine va_calli (va_runS (As := As) (rest := rest) ⟨C.1, C.2.1, C.2.2.1, C.2.2.2.1, C.2.2.2.2.1⟩ (hM σ H.size post hw) (cwS n C.2.2.2.2.1 hS.1 rfl hR.1 hR.2.1 hS.2 hR.2.2) ⟨fun a U g mk q => by obtain ⟨q0, q1, qP, qK, qD⟩ := q; exact ⟨q0, q1, qP, va_K.moved (u := U) (U := U.calling g mk a) (Vm.Alike.refl U.vm) qK, qD⟩, fun U hU hW => ⟨rfl, by rw [hU], by rw [hU]; exact hP, va_K.moved hW.alike hK, hD.weaken (fun _ _ _ _ => trivial)⟩⟩ rfl hn hls rfl (lv_room hsm) hdg hc0) hS0 (fun q _ h => hFc q h) hFc (fun r u t H1 locs ht hvm hw hB hz1 hk1 hS => ?_)
  obtain ⟨hP1, hK1, hD1⟩ := hB
  rw [ht] at hP1
  exact kk r u H1 locs hw ⟨hP1, hD1.weaken (fun k q _ h => hFc q.1 h), hS, hK, hA⟩
theorem m_callvv {y : MethodName} {bytes : ByteArray} {maxL n index : Nat} {rt : Option FieldType} {rm : Room} {As st : List Value} {wp : MS → (MS → Prop) → Prop} {post : MS → Prop} (C : m_C p s m args meth c cc nL ret) (Wd : m_W D ad σ A s H locs) (hM : m_Mv l D y bytes maxL rt rm ad (.ref (m_h ad) :: As) wp) (hS : m_Sv RX1 index y bytes maxL rt n) (hR : rm.cells = 0 ∧ rm.slots = 0 ∧ rm.frames + 1 ≤ R.frames ∧ 8 + (maxL + 11) + rm.locals ≤ R.locals) (hn : As.length = n) (hls : ls.size = nL) (hst : st = As.reverse ++ .ref (m_h ad) :: rest) (hsm : (rest.map fun v => v.category).sum ≤ 8) (hcs : cells ≤ R.cells ∧ slots ≤ R.slots) (hdg : decode cc pc = .ok (.invokevirtual index, 3)) (hw : wp σ post) (kk : ∀ (σ : MS) (H : Heap) (locs : List Loc), post σ → m_W D ad σ A s H locs → W p l e R s m args below meth c H locs cells slots Q (F0 m (pc + 3) ls (rest))) : W p l e R s m args below meth c H locs cells slots Q (F0 m pc ls st) := by
  obtain ⟨hP, hD, hS0, hK, hA⟩ := Wd
  subst hst
  have hFc := va_free (wc := m_w ad σ) hD hS0 hA [0, 1, 2, 3, 4, 5] rfl
  have hc0 : cells + 0 ≤ R.cells ∧ slots + 0 ≤ R.slots := hcs
  refine va_callv (va_runV (As := As) (rest := rest) (b := m_h ad) ⟨C.1, C.2.1, C.2.2.1, C.2.2.2.1, C.2.2.2.2.1⟩ (hM σ H.size post hw) (cwV n C.2.2.2.2.1 hS.1 rfl hR.1 hR.2.1 hS.2 hR.2.2) ⟨fun a U g mk q => by obtain ⟨q0, q1, qP, qK, qD⟩ := q; exact ⟨q0, q1, qP, va_K.moved (u := U) (U := U.calling g mk a) (Vm.Alike.refl U.vm) qK, qD⟩, va_recv hK hP (ci := 1) (q0 := 0) rfl rfl, fun U hU hW => ⟨rfl, by rw [hU], by rw [hU]; exact hP, va_K.moved hW.alike hK, hD.weaken (fun _ _ _ _ => trivial)⟩⟩ rfl hn hls rfl (lv_room hsm) hdg hc0) hS0 (fun q _ h => hFc q h) hFc (fun u t H1 locs ht hvm hw hB hz1 hk1 hS => ?_)
  obtain ⟨hP1, hK1, hD1⟩ := hB
  rw [ht] at hP1
  exact kk u H1 locs hw ⟨hP1, hD1.weaken (fun k q _ h => hFc q.1 h), hS, hK, hA⟩
theorem m_callvs {y : MethodName} {bytes : ByteArray} {maxL n index : Nat} {rt : Option FieldType} {rm : Room} {As st : List Value} {wp : MS → (MS → Prop) → Prop} {post : MS → Prop} (C : m_C p s m args meth c cc nL ret) (Wd : m_W D ad σ A s H locs) (hM : m_Mv l D y bytes maxL rt rm ad As wp) (hS : m_Ss index y bytes maxL rt n) (hR : rm.cells = 0 ∧ rm.slots = 0 ∧ rm.frames + 1 ≤ R.frames ∧ 8 + (maxL + 11) + rm.locals ≤ R.locals) (hn : As.length = n) (hls : ls.size = nL) (hst : st = As.reverse ++ rest) (hsm : (rest.map fun v => v.category).sum ≤ 8) (hcs : cells ≤ R.cells ∧ slots ≤ R.slots) (hdg : decode cc pc = .ok (.invokestatic index, 3)) (hw : wp σ post) (kk : ∀ (σ : MS) (H : Heap) (locs : List Loc), post σ → m_W D ad σ A s H locs → W p l e R s m args below meth c H locs cells slots Q (F0 m (pc + 3) ls (rest))) : W p l e R s m args below meth c H locs cells slots Q (F0 m pc ls st) := by
  obtain ⟨hP, hD, hS0, hK, hA⟩ := Wd
  subst hst
  have hFc := va_free (wc := m_w ad σ) hD hS0 hA [0, 1, 2, 3, 4, 5] rfl
  have hc0 : cells + 0 ≤ R.cells ∧ slots + 0 ≤ R.slots := hcs
  refine va_callv (va_runS (As := As) (rest := rest) ⟨C.1, C.2.1, C.2.2.1, C.2.2.2.1, C.2.2.2.2.1⟩ (hM σ H.size post hw) (cwS n C.2.2.2.2.1 hS.1 rfl hR.1 hR.2.1 hS.2 hR.2.2) ⟨fun a U g mk q => by obtain ⟨q0, q1, qP, qK, qD⟩ := q; exact ⟨q0, q1, qP, va_K.moved (u := U) (U := U.calling g mk a) (Vm.Alike.refl U.vm) qK, qD⟩, fun U hU hW => ⟨rfl, by rw [hU], by rw [hU]; exact hP, va_K.moved hW.alike hK, hD.weaken (fun _ _ _ _ => trivial)⟩⟩ rfl hn hls rfl (lv_room hsm) hdg hc0) hS0 (fun q _ h => hFc q h) hFc (fun u t H1 locs ht hvm hw hB hz1 hk1 hS => ?_)
  obtain ⟨hP1, hK1, hD1⟩ := hB
  rw [ht] at hP1
  exact kk u H1 locs hw ⟨hP1, hD1.weaken (fun k q _ h => hFc q.1 h), hS, hK, hA⟩
end mK


theorem sM_at : m_Sv RX1 36 yX1_at cX1_at 3 (some .int) 1 := ⟨gw_v (gm 335 rfl rfl) (gm 337 rfl rfl) (gm 29 rfl rfl) (gm 47 rfl rfl) (gm 338 rfl rfl), by decide +kernel⟩
theorem sM_part : m_Sv RX1 46 yX1_part cX1_part 4 none 2 := ⟨gw_v (gm 343 rfl rfl) (gm 345 rfl rfl) (gm 31 rfl rfl) (gm 47 rfl rfl) (gm 346 rfl rfl), by decide +kernel⟩
theorem sM_stateOf : m_Sv RX1 50 yX1_stateOf cX1_stateOf 2 (some .int) 1 := ⟨gw_v (gm 327 rfl rfl) (gm 329 rfl rfl) (gm 27 rfl rfl) (gm 47 rfl rfl) (gm 330 rfl rfl), by decide +kernel⟩
theorem sM_cut : m_Sv RX1 53 yX1_cut cX1_cut 3 (some .boolean) 2 := ⟨gw_v (gm 339 rfl rfl) (gm 341 rfl rfl) (gm 30 rfl rfl) (gm 47 rfl rfl) (gm 342 rfl rfl), by decide +kernel⟩
theorem sM_best : m_Sv RX1 57 yX1_best cX1_best 7 (some .int) 2 := ⟨gw_v (gm 323 rfl rfl) (gm 325 rfl rfl) (gm 26 rfl rfl) (gm 47 rfl rfl) (gm 326 rfl rfl), by decide +kernel⟩
theorem sM_fromVictim : m_Sv RX1 61 yX1_fromVictim cX1_fromVictim 3 (some .int) 1 := ⟨gw_v (gm 331 rfl rfl) (gm 333 rfl rfl) (gm 28 rfl rfl) (gm 47 rfl rfl) (gm 334 rfl rfl), by decide +kernel⟩
theorem sM_store : m_Sv RX1 64 yX1_store cX1_store 2 none 1 := ⟨gw_v (gm 347 rfl rfl) (gm 349 rfl rfl) (gm 32 rfl rfl) (gm 47 rfl rfl) (gm 350 rfl rfl), by decide +kernel⟩
theorem sM_top : m_Sv RX1 68 yX1_top cX1_top 1 (some .int) 0 := ⟨gw_v (gm 355 rfl rfl) (gm 357 rfl rfl) (gm 34 rfl rfl) (gm 47 rfl rfl) (gm 358 rfl rfl), by decide +kernel⟩
theorem sM_takeSmall : m_Sv RX1 72 yX1_takeSmall cX1_takeSmall 4 (some .int) 1 := ⟨gw_v (gm 319 rfl rfl) (gm 321 rfl rfl) (gm 25 rfl rfl) (gm 47 rfl rfl) (gm 322 rfl rfl), by decide +kernel⟩
theorem sM_takeLarge : m_Sv RX1 75 yX1_takeLarge cX1_takeLarge 4 (some .int) 1 := ⟨gw_v (gm 351 rfl rfl) (gm 353 rfl rfl) (gm 33 rfl rfl) (gm 47 rfl rfl) (gm 354 rfl rfl), by decide +kernel⟩
theorem sM_grow : m_Sv RX1 78 yX1_grow cX1_grow 5 (some .boolean) 1 := ⟨gw_v (gm 359 rfl rfl) (gm 361 rfl rfl) (gm 35 rfl rfl) (gm 47 rfl rfl) (gm 362 rfl rfl), by decide +kernel⟩
theorem sM_join : m_Sv RX1 82 yX1_join cX1_join 3 none 1 := ⟨gw_v (gm 380 rfl rfl) (gm 382 rfl rfl) (gm 38 rfl rfl) (gm 47 rfl rfl) (gm 383 rfl rfl), by decide +kernel⟩
theorem sM_take : m_Sv RX1 85 yX1_take cX1_take 6 (some .int) 1 := ⟨gw_v (gm 315 rfl rfl) (gm 317 rfl rfl) (gm 24 rfl rfl) (gm 47 rfl rfl) (gm 318 rfl rfl), by decide +kernel⟩
theorem sM_malloc : m_Sv RX1 88 yX1_malloc cX1_malloc 3 (some .int) 1 := ⟨gw_v (gm 367 rfl rfl) (gm 312 rfl rfl) (gm 313 rfl rfl) (gm 47 rfl rfl) (gm 314 rfl rfl), by decide +kernel⟩
theorem sM_holder : m_Sv RX1 91 yX1_holder cX1_holder 3 (some .int) 1 := ⟨gw_v (gm 368 rfl rfl) (gm 370 rfl rfl) (gm 36 rfl rfl) (gm 47 rfl rfl) (gm 371 rfl rfl), by decide +kernel⟩
theorem sM_give : m_Sv RX1 94 yX1_give cX1_give 4 none 1 := ⟨gw_v (gm 376 rfl rfl) (gm 378 rfl rfl) (gm 37 rfl rfl) (gm 47 rfl rfl) (gm 379 rfl rfl), by decide +kernel⟩
theorem sM_shorten : m_Sv RX1 97 yX1_shorten cX1_shorten 3 none 2 := ⟨gw_v (gm 388 rfl rfl) (gm 390 rfl rfl) (gm 39 rfl rfl) (gm 47 rfl rfl) (gm 391 rfl rfl), by decide +kernel⟩
theorem sM_lengthen : m_Sv RX1 100 yX1_lengthen cX1_lengthen 7 (some .boolean) 2 := ⟨gw_v (gm 392 rfl rfl) (gm 394 rfl rfl) (gm 40 rfl rfl) (gm 47 rfl rfl) (gm 395 rfl rfl), by decide +kernel⟩
theorem sM_moveTo : m_Sv RX1 103 yX1_moveTo cX1_moveTo 7 (some .int) 2 := ⟨gw_v (gm 396 rfl rfl) (gm 398 rfl rfl) (gm 41 rfl rfl) (gm 47 rfl rfl) (gm 399 rfl rfl), by decide +kernel⟩
theorem sM_usable : m_Sv RX1 106 yX1_usable cX1_usable 3 (some .int) 1 := ⟨gw_v (gm 420 rfl rfl) (gm 409 rfl rfl) (gm 410 rfl rfl) (gm 47 rfl rfl) (gm 411 rfl rfl), by decide +kernel⟩
theorem sM_isData : m_Sv RX1 109 yX1_isData cX1_isData 3 (some .boolean) 2 := ⟨gw_v (gm 416 rfl rfl) (gm 418 rfl rfl) (gm 42 rfl rfl) (gm 47 rfl rfl) (gm 419 rfl rfl), by decide +kernel⟩
