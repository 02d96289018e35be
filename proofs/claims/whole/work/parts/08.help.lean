/-! the proof's own words: the classes and arrays of all worlds, what the tables give, contracts of three kinds (P: changes nothing; C: changes cells; X: changes cells, or throws) -/
abbrev sm_G : Type := va_G × (Nat → ClassId)
abbrev sm_cl : List vw_C := [(RX0, TX0, 2), (RX1, TX1, 5), (RX2, TX2, 8), (RX3, TX3, 3), (RX4, TX4, 3), (RX5, TX5, 4), (RX6, TX6, 12), (RX7, TX7, 33)]
abbrev sm_ty (d : Nat → ClassId) : List (ClassId × FieldType) := [(d 0, .int), (d 1, .boolean), (d 2, .char), (d 3, .long), (d 4, .double)]
def sm_b (b : Bool) : Int32 := match b with
  | true => 1
  | false => 0
theorem sm_b0 {b : Bool} (h : sm_b b = 0) : b = false := by cases b; rfl; exact absurd h (by decide)
theorem sm_b1 {b : Bool} (h : ¬ sm_b b = 0) : b = true := by cases b; exact absurd rfl h; rfl
theorem sm_nb (b : Bool) : narrow .boolean (.int (sm_b b)) = .int (sm_b b) := by cases b <;> decide
def sm_ad (ws : va_W) : Nat → Prop := fun q => ∃ (k : Nat) (e : va_E), ws[k]? = some (q, e)
abbrev sm_nm : List (String × Nat × MethodName × String) := [(RX3, 22, yX6_isKey, RX6), (RX5, 24, yX6_isKey, RX6), (RX4, 19, yX6_isWithin, RX6), (RX6, 18, yX3_init, RX6), (RX6, 25, yX5_init, RX6), (RX6, 32, yX1_init, RX6), (RX6, 42, yX2_init, RX6), (RX6, 49, yX0_init, RX6), (RX6, 9, yX4_init, RX6), (RX2, 11, yX3_init, RX6)]
abbrev sm_str : List (Nat × String) := [(104, "it is not copying"), (114, "the first copy is not complete"), (121, "not both stores are written"), (130, "the stores are not alike"), (135, "it is not switched"), (140, "an entry cannot be turned back"), (162, "no such key, or no such number"), (167, "nothing can be written any more"), (190, "nothing can be deleted any more"), (192, "the log is full"), (206, "nothing has this key"), (214, "no number is given out any more"), (216, "no such number of keys"), (218, "no part can be read"), (229, "no such part waits"), (252, "no such number of changes"), (261, "the key has no stamp"), (267, "the source has no such row"), (272, "the row cannot be turned"), (280, "the target has no such entry"), (285, "the entry cannot be turned back"), (294, "no key of the range differs"), (296, "the source is not being moved"), (300, "the source is empty"), (306, "the target has no entries"), (311, "no such key"), (313, "no such range of keys"), (77, "no such step"), (88, "no step can be added any more"), (99, "it was started before")]
abbrev sm_IA : String := "java/lang/IllegalArgumentException"
abbrev sm_IS : String := "java/lang/IllegalStateException"
abbrev sm_UO : String := "java/lang/UnsupportedOperationException"
abbrev sm_NS : String := "java/util/NoSuchElementException"
abbrev sm_IO : String := "java/lang/IndexOutOfBoundsException"
abbrev sm_AR : String := "java/lang/ArithmeticException"
abbrev sm_nc : List (String × String) := [(sm_IS, sm_IA), (sm_UO, sm_IS), (sm_NS, sm_IA), (sm_UO, sm_IA), (sm_UO, sm_NS)]
abbrev sm_nd : List MethodName := [Bundle.initS "java/lang/RuntimeException", Bundle.initS "java/lang/Exception", Bundle.initS Bundle.tN]
abbrev sm_ce : List String := [sm_IA, sm_IS, sm_UO, sm_NS, sm_IO, sm_AR]
def sm_K (D : sm_G) (U : State) : Prop := va_K D.1 sm_cl (sm_ty D.2) U ∧ (∀ q ∈ sm_nm, va_Nw (.methodLinkNest q.1 q.2.1 q.2.2.1 q.2.2.2) U) ∧ (∀ q ∈ sm_str, ∃ a, vk_R RX6 q.1 q.2 a U) ∧ (∀ q ∈ sm_nc, va_Nc q.1 q.2 U) ∧ (∀ q ∈ sm_nd, va_Nw (.declares q) U) ∧ ∀ q ∈ sm_ce, va_Nw (.castable q q) U
theorem sm_K.warm {D : sm_G} {s U : State} (hW : s.WarmedH U.vm) (h : sm_K D s) : sm_K D U := ⟨va_K.moved hW.alike h.1, fun q hq => va_Nw.warmM hW (h.2.1 q hq), fun q hq => (h.2.2.1 q hq).elim fun a ha => ⟨a, vk_R.warm hW ha⟩, fun q hq => va_Nc.moved hW.alike (h.2.2.2.1 q hq), fun q hq => va_Nw.warmD hW (h.2.2.2.2.1 q hq), fun q hq => va_Nw.warmC hW (h.2.2.2.2.2 q hq)⟩
theorem sm_K.call {D : sm_G} {U : State} {g : JFrame} {mk : MethodId} {a : Array Value} (h : sm_K D U) : sm_K D (U.calling g mk a) := ⟨va_K.moved (u := U) (U := U.calling g mk a) (Vm.Alike.refl U.vm) h.1, fun q hq => va_Nw.same rfl (u := U) (U := U.calling g mk a) rfl (h.2.1 q hq), fun q hq => (h.2.2.1 q hq).elim fun z hz => ⟨z, vk_R.same (u := U) (U := U.calling g mk a) rfl hz⟩, fun q hq => va_Nc.moved (u := U) (U := U.calling g mk a) (Vm.Alike.refl U.vm) (h.2.2.2.1 q hq), fun q hq => va_Nw.same rfl (u := U) (U := U.calling g mk a) rfl (h.2.2.2.2.1 q hq), fun q hq => va_Nw.same rfl (u := U) (U := U.calling g mk a) rfl (h.2.2.2.2.2 q hq)⟩
def sm_Z (A : Nat → Prop) (U : State) (H : Heap) : Prop := vx_Zq Bundle.tN "UNASSIGNED_STACK" Bundle.steD A U H ∧ vx_Zq Bundle.tN "SUPPRESSED_SENTINEL" Bundle.listD A U H
theorem sm_Z.kept {A : Nat → Prop} {U : State} {H H1 : Heap} (h : sm_Z A U H) (hq : ∀ a : Nat, a < H.size → ¬ A a → H1[a]? = H[a]?) : sm_Z A U H1 := ⟨h.1.kept hq, h.2.kept hq⟩
theorem sm_Z.moved {A : Nat → Prop} {u U : State} {H : Heap} (hvm : u.vm.Alike U.vm) (h : sm_Z A u H) : sm_Z A U H := ⟨vx_Zq.moved hvm h.1, vx_Zq.moved hvm h.2⟩
theorem sm_Z.narrow {A B : Nat → Prop} {U : State} {H : Heap} (h : sm_Z A U H) (hAB : ∀ q, B q → A q) : sm_Z B U H := ⟨h.1.narrow hAB, h.2.narrow hAB⟩
-- what holds at a method's start, and at its end
def sm_Pp (D : sm_G) (ws : va_W) : State → Prop := fun U => va_P D.1 sm_cl ws U.heap ∧ sm_K D U
def sm_Px (D : sm_G) (ws : va_W) : State → Prop := fun U => (va_P D.1 sm_cl ws U.heap ∧ sm_K D U) ∧ va_D (sm_ad ws) ws ∧ sm_Z (sm_ad ws) U U.heap
def sm_Qp (ov : Option Value) : Array Value → State → Outcome → State → Prop := fun _ st oc t => oc = .returned ov ∧ t.heap = st.heap
def sm_Ch (D : sm_G) (ws : va_W) (B : va_W → Prop) (st t : State) : Prop := (∃ w1, B w1 ∧ va_P D.1 sm_cl w1 t.heap ∧ va_D (sm_ad ws) w1) ∧ va_F (sm_ad ws) st t
def sm_Qc (D : sm_G) (ws : va_W) (B : va_W → Prop) (ov : Option Value) : Array Value → State → Outcome → State → Prop := fun _ st oc t => oc = .returned ov ∧ sm_Ch D ws B st t
def sm_Qx (D : sm_G) (ws : va_W) (B : va_W → Prop) (r : String ⊕ Option Value) : Array Value → State → Outcome → State → Prop := fun _ st oc t => (∃ ov, r = .inr ov ∧ oc = .returned ov) ∧ sm_Ch D ws B st t
def sm_Xx (D : sm_G) (ws : va_W) (B : va_W → Prop) (r : String ⊕ Option Value) : String → State → State → Prop := fun E st t => r = .inl E ∧ sm_Ch D ws B st t
abbrev sm_MP (l : Launch) (y : MethodName) (cc : ByteArray) (nL : Nat) (ret : Option FieldType) (fr lo : Nat) (vs : List Value) (D : sm_G) (ws : va_W) (ov : Option Value) : Prop := Met l y (.code y cc nL ret :: wsL_law) ({ frames := fr, cells := 0, slots := 0, locals := lo } : Room) (va_Pc vs (sm_Pp D ws)) (sm_Qp ov) 0 0 (fun _ => False)
abbrev sm_MC (l : Launch) (y : MethodName) (cc : ByteArray) (nL : Nat) (ret : Option FieldType) (fr lo : Nat) (vs : List Value) (D : sm_G) (ws : va_W) (B : va_W → Prop) (ov : Option Value) : Prop := Met l y (.code y cc nL ret :: wsL_law) ({ frames := fr, cells := 0, slots := 0, locals := lo } : Room) (va_Pc vs (sm_Px D ws)) (sm_Qc D ws B ov) 0 0 (sm_ad ws)
abbrev sm_MX (l : Launch) (y : MethodName) (cc : ByteArray) (nL : Nat) (ret : Option FieldType) (fr lo : Nat) (vs : List Value) (D : sm_G) (ws : va_W) (B : va_W → Prop) (r : String ⊕ Option Value) : Prop := vx_Met l y (.code y cc nL ret :: wsL_law) ({ frames := fr, cells := 1, slots := 6, locals := lo } : Room) (va_Pc vs (sm_Px D ws)) (sm_Qx D ws B r) (sm_Xx D ws B r) 1 6 (sm_ad ws)
theorem sm_all : wsL_law.all goodWord = true := by decide +kernel
theorem sm_pay {args : Array Value} {s : State} (hts : ∀ w ∈ wsL_law, w.before args s = true) : ∀ w ∈ wsL_law, ∀ (a' : Array Value) (U : State), s.WarmedH U.vm → w.before a' U = true := pay_in hts (fun w h => ⟨h, good_of_word (List.all_eq_true.mp sm_all w h)⟩)
/-- what a body has at hand -/
def sm_Cx (p : Program) (s : State) (m : MethodId) (args : Array Value) (meth : Method) (c : Code) (cc : ByteArray) (nL : Nat) (ret : Option FieldType) (own : String) : Prop :=
  p.tables.exec = Jvm.exec ∧ c.code = cc ∧ c.maxLocals = nL ∧ meth.sig.returnType = ret ∧ s.vm.findClass own = some m.cls ∧ meth.locks = false ∧ (∀ w ∈ wsL_law, w.before args s = true)
theorem sm_met {l : Launch} {y : MethodName} {cc : ByteArray} {nL : Nat} {ret : Option FieldType} {rm : Room} {Qc : Array Value → State → Outcome → State → Prop} {mc ms : Nat} {free : Addr → Prop} {own : String} {vs : List Value} {B : State → Prop} (hy : plainName y.cls = true) (ho : y.cls = own) (hlen : (lg_sl vs).length ≤ nL)
    (body : ∀ (p : Program) (e : Env) (s : State) (m : MethodId) (below : List Frame) (meth : Method) (c : Code) (ls : Array Slot), sm_Cx p s m vs.toArray meth c cc nL ret own → B s → lv_has ls nL (lv_args 0 vs) → W p l e rm s m vs.toArray below meth c s.heap [] 0 0 (MQ below Qc vs.toArray s mc ms free) (F0 m 0 ls [])) : Met l y (.code y cc nL ret :: wsL_law) rm (va_Pc vs B) Qc mc ms free := by
  refine Met.ofW (cc := cc) (maxL := nL) (ret := ret) hy rfl ?_
  intro p e s m args below meth c s₁ B hml hv
  obtain ⟨rfl, hB⟩ := hv
  have hts0 := atoms_spec (ws := Cond.code y cc nL ret :: wsL_law) B.pre
  subst ho
  rw [lg_entry_eq]
  exact body p e s m below meth c _ ⟨B.exec, B.bytes, hml, B.returns, findClass_of_methodNamed B.named, B.notSynchronized, fun w h => hts0 w (List.mem_cons_of_mem _ h)⟩ hB (lv_entry vs hlen)
theorem sm_metX {l : Launch} {y : MethodName} {cc : ByteArray} {nL : Nat} {ret : Option FieldType} {rm : Room} {Qc : Array Value → State → Outcome → State → Prop} {XC : String → State → State → Prop} {mc ms : Nat} {free : Addr → Prop} {own : String} {vs : List Value} {B : State → Prop} (hy : plainName y.cls = true) (ho : y.cls = own) (hlen : (lg_sl vs).length ≤ nL)
    (body : ∀ (p : Program) (e : Env) (s : State) (m : MethodId) (below : List Frame) (meth : Method) (c : Code) (ls : Array Slot), sm_Cx p s m vs.toArray meth c cc nL ret own → (∀ x ∈ c.exceptionTable.toList, False) → B s → lv_has ls nL (lv_args 0 vs) → W p l e rm s m vs.toArray below meth c s.heap [] 0 0 (vx_MQ below Qc XC vs.toArray s mc ms free) (F0 m 0 ls [])) : vx_Met l y (.code y cc nL ret :: wsL_law) rm (va_Pc vs B) Qc XC mc ms free := by
  refine vx_ofW (cc := cc) (maxL := nL) (ret := ret) hy rfl ?_
  intro p e s m args below meth c s₁ B hml htab hv
  obtain ⟨rfl, hB⟩ := hv
  have hts0 := atoms_spec (ws := Cond.code y cc nL ret :: wsL_law) B.pre
  subst ho
  rw [lg_entry_eq]
  exact body p e s m below meth c _ ⟨B.exec, B.bytes, hml, B.returns, findClass_of_methodNamed B.named, B.notSynchronized, fun w h => hts0 w (List.mem_cons_of_mem _ h)⟩ htab hB (lv_entry vs hlen)
