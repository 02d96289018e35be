/-! new objects and arrays: what a constructor's contract says, and the rows for it -/
def sm_Pi (D : sm_G) (ws : va_W) (sz : Nat) : State → Prop := fun U => U.heap.size = sz ∧ va_P D.1 sm_cl ws U.heap ∧ sm_K D U ∧ va_D (fun _ => True) ws
def sm_Qi (D : sm_G) (ws : va_W) (sz : Nat) (B : va_W → Prop) : Array Value → State → Outcome → State → Prop := fun _ st oc t => oc = .returned none ∧ (∃ w1, B w1 ∧ va_P D.1 sm_cl w1 t.heap ∧ va_D (va_A ws sz) w1) ∧ va_F (va_A ws sz) st t
abbrev sm_MI (l : Launch) (y : MethodName) (cc : ByteArray) (nL : Nat) (fr lo : Nat) (vs : List Value) (D : sm_G) (ws : va_W) (sz : Nat) (B : va_W → Prop) (mc ms : Nat) : Prop := Met l y (.code y cc nL none :: wsL_law) ({ frames := fr, cells := mc, slots := ms, locals := lo } : Room) (va_Pc vs (sm_Pi D ws sz)) (sm_Qi D ws sz B) mc ms (va_A ws sz)
theorem sm_rotP {D : va_G} {cl : List vw_C} {l : va_W} {b : Nat × va_E} {H : Heap} (h : va_P D cl (l ++ [b]) H) : va_P D cl (b :: l) H := by
  intro k q hq
  cases k with
  | zero => exact h l.length q (by rw [List.getElem?_append_right (Nat.le_refl _), Nat.sub_self]; exact hq)
  | succ k =>
    have hq : l[k]? = some q := hq
    exact h k q (by rw [List.getElem?_append_left (List.getElem?_eq_some_iff.mp hq).1]; exact hq)
theorem sm_rotD {A : Nat → Prop} {l : va_W} {b : Nat × va_E} (h : va_D A (l ++ [b])) : va_D A (b :: l) := by
  have e : ∀ (k : Nat) (q : Nat × va_E), (b :: l)[k]? = some q → ∃ k2, (l ++ [b])[k2]? = some q ∧ ((k = 0 ∧ k2 = l.length) ∨ (k = k2 + 1 ∧ k2 < l.length)) := by
    intro k q hq
    cases k with
    | zero => exact ⟨l.length, by rw [List.getElem?_append_right (Nat.le_refl _), Nat.sub_self]; exact hq, Or.inl ⟨rfl, rfl⟩⟩
    | succ k =>
      have hq : l[k]? = some q := hq
      have hk := (List.getElem?_eq_some_iff.mp hq).1
      exact ⟨k, by rw [List.getElem?_append_left hk]; exact hq, Or.inr ⟨rfl, hk⟩⟩
  refine ⟨fun i j p q hi hj hpq => ?_, fun k q hq => ?_⟩
  · obtain ⟨i2, h1, h2⟩ := e i p hi
    obtain ⟨j2, h3, h4⟩ := e j q hj
    have := h.1 i2 j2 p q h1 h3 hpq
    omega
  · obtain ⟨k2, h1, -⟩ := e k q hq
    exact h.2 k2 q h1
section SMN
variable {p : Program} {l : Launch} {e : Env} {R : Room} {s : State} {m : MethodId} {args : Array Value} {below : List Frame} {meth : Method} {c : Code} {H : Heap} {locs : List Loc} {cells slots : Nat} {Q : State → Prop}
variable {cc : ByteArray} {pc : Nat} {ls : Array Slot} {rest : List Value} {D : sm_G} {ws : va_W} {a : Nat} {H0 : Heap} {A : Nat → Prop}
theorem sm_nw {t0 : Nat} {ty : FieldType} {atype : ArrayType} (hx : p.tables.exec = Jvm.exec) (hb : c.code = cc) (hts : ∀ w ∈ wsL_law, w.before args s = true) (harr : Cond.arrayClass ty ∈ wsL_law) (hty : newarray.typeOf atype = ty) (ht0 : (sm_ty D.2)[t0]? = some (D.2 t0, ty)) (hra : ∀ (U : State) (cA : ClassId), va_RA U cA ty → U.vm.findClass ("[" ++ ty.toString) = some cA) (hK : sm_K D s) (hP : va_P D.1 sm_cl ws H) (hD : va_D A ws) (hS : va_S A H0 H locs) (hA : ∀ q, H0.size ≤ q → A q)
    {n : Int32} {N' : Nat} {a0 : vp_A} (ha : ∀ cA : ClassId, vp_cell cA a0 = arrV cA N' (fun _ => defaultValue ty)) (hn : ¬ n < 0) (hN : n.toNatClampNeg = N') (hbytes : N' * componentBytes ty ≤ 536870912) (hcells : cells + 1 ≤ R.cells) (hslots : slots + N' ≤ R.slots) (hdg : decode cc pc = .ok (.newarray atype, 2))
    (kk : ∀ (q : Nat) (H1 : Heap), va_P D.1 sm_cl (ws ++ [(q, .inl (D.2 t0, a0))]) H1 → va_D A (ws ++ [(q, .inl (D.2 t0, a0))]) → va_S A H0 H1 locs →
      W p l e R s m args below meth c H1 locs (cells + 1) (slots + N') Q (F0 m (pc + 2) ls (.ref q :: rest))) : W p l e R s m args below meth c H locs cells slots Q (F0 m pc ls (.int n :: rest)) := by
  refine va_newa hx hb (by rw [hty]; exact hts _ harr) hty hK.1 hP hD hS hA ha hn hN hbytes hcells hslots hdg (fun q cA H1 hK1 hP1 hD1 hS1 => ?_)
  have h1 := hra _ _ (hK1.2 5 (cA, ty) rfl).2
  have h2 := hra _ _ (hK.1.2 t0 (D.2 t0, ty) ht0).2
  have e : cA = D.2 t0 := Option.some.inj (h1.symm.trans h2)
  subst e
  exact kk q H1 hP1 hD1 hS1
variable {y : MethodName} {bytes : ByteArray} {maxL fr lo n index nL ci N mc ms sz : Nat} {rt : Option FieldType} {own C host : String} {T : u_T} {b : Addr} {As st0 fs : List Value} {B : va_W → Prop}
theorem sm_adI (hD : va_D A ws) (hS : va_S A H0 H locs) (hA : ∀ q, H0.size ≤ q → A q) : ∀ q, va_A ws H.size q → A q := fun q h => by
  rcases h with ⟨k, e, h⟩ | h
  · exact hD.2 k _ h
  · exact hA q (Nat.le_trans hS.1 h)
theorem sm_kI {av : Array Value} (hr : va_Run p l e R s m args below meth c H locs cells slots mc ms (F0 m pc ls st0) rest (sm_Qi D ws H.size B av) (va_A ws H.size)) (hD : va_D A ws) (hS : va_S A H0 H locs) (hA : ∀ q, H0.size ≤ q → A q)
    (kk : ∀ (w1 : va_W) (H1 : Heap) (locs1 : List Loc), B w1 → va_P D.1 sm_cl w1 H1 → va_D A w1 → va_S A H0 H1 locs1 → W p l e R s m args below meth c H1 locs1 (cells + mc) (slots + ms) Q (F0 m (pc + 3) ls rest)) : W p l e R s m args below meth c H locs cells slots Q (F0 m pc ls st0) := by
  intro T hT X
  obtain ⟨v, st₀, t, T', L, h0, X', hL, e1, e2, ⟨hv, ⟨w1, hB, hP1, hD1⟩, hF⟩, st⟩ := hr T hT X
  cases hv
  obtain ⟨-, -, k3⟩ := vx_keep (A0 := A) h0 e1 hS (fun q _ h => sm_adI hD hS hA q h) (sm_adI hD hS hA) hL hF
  obtain ⟨t2, a1, b1⟩ := kk w1 T'.heap (locs ++ L) hB (by rw [e1]; exact hP1) (hD1.weaken (fun _ _ _ z => sm_adI hD hS hA _ z)) k3 T' rfl X'
  exact ⟨t2, st t2 a1, b1⟩
theorem sm_blI {vs : List Value} : FrameBlind (va_Pc vs (sm_Pi D ws sz)) := fun a U g mk q => ⟨q.1, q.2.1, q.2.2.1, q.2.2.2.1.call, q.2.2.2.2⟩
/-- a private constructor of a nest mate -/
theorem sm_cNI (hC : sm_Cx p s m args meth c cc nL rt own) (hK : sm_K D s) (hP : va_P D.1 sm_cl ws H) (hD : va_D A ws) (hS : va_S A H0 H locs) (hA : ∀ q, H0.size ≤ q → A q) (hM : sm_MI l y bytes maxL fr lo (.ref b :: As) D ws H.size B mc ms) (hin : Cond.instanceMethod y ∈ wsL_law) (hini : Cond.initialized y.cls ∈ wsL_law) (hcd : Cond.code y bytes maxL none ∈ wsL_law) (hnm : y.name = "<init>") (hy : y.cls ≠ "java/lang/invoke/MethodHandle" ∧ y.cls ≠ "java/lang/invoke/VarHandle" ∧ (parseMethodDescriptor y.desc).map (fun d => d.parameters.length) = some n) (m1 : (own, index, y, host) ∈ sm_nm) (hR : fr + 1 ≤ R.frames ∧ 8 + (maxL + 11) + lo ≤ R.locals)
    (hn : As.length = n) (hsz : ls.size = nL) (hst : st0 = As.reverse ++ .ref b :: rest) (hcat : (rest.map fun v => v.category).sum ≤ 8) (hdg : decode cc pc = .ok (.invokespecial index, 3)) (hf : cells + mc ≤ R.cells ∧ slots + ms ≤ R.slots)
    (kk : ∀ (w1 : va_W) (H1 : Heap) (locs1 : List Loc), B w1 → va_P D.1 sm_cl w1 H1 → va_D A w1 → va_S A H0 H1 locs1 → W p l e R s m args below meth c H1 locs1 (cells + mc) (slots + ms) Q (F0 m (pc + 3) ls rest)) : W p l e R s m args below meth c H locs cells slots Q (F0 m pc ls st0) := by
  obtain ⟨hx, hb, hml, -, hown, -, hts⟩ := hC
  have hN : va_CN R s args own index y host bytes maxL none (.code y bytes maxL none :: wsL_law) ({ frames := fr, cells := mc, slots := ms, locals := lo } : Room) mc ms n := va_cnB (Ts := wsL_law) n hts (fun w hw => by
    rcases List.mem_cons.mp hw with h | h
    · rw [h]; exact ⟨hcd, good_of_word (List.all_eq_true.mp sm_all _ hcd)⟩
    · exact ⟨h, good_of_word (List.all_eq_true.mp sm_all _ h)⟩) rfl rfl rfl (hK.2.1 _ m1) (hts _ hini) hy hR
  exact sm_kI (va_runIN (own := own) (y := y) (As := As) ⟨hx, hb, hml, hown, hts⟩ hM ⟨hN, hnm, hts _ hin⟩ ⟨sm_blI, fun U hU hW => ⟨rfl, by rw [hU], by rw [hU]; exact hP, hK.warm hW, hD.weaken (fun _ _ _ _ => trivial)⟩⟩ rfl hn hsz hst (lv_room hcat) hdg hf) hD hS hA kk
/-- a public constructor -/
theorem sm_cI (hC : sm_Cx p s m args meth c cc nL rt own) (hK : sm_K D s) (hP : va_P D.1 sm_cl ws H) (hD : va_D A ws) (hS : va_S A H0 H locs) (hA : ∀ q, H0.size ≤ q → A q) (hM : sm_MI l y bytes maxL fr lo (.ref b :: As) D ws H.size B mc ms) (hin : Cond.instanceMethod y ∈ wsL_law) (hini : Cond.initialized y.cls ∈ wsL_law) (hcd : Cond.code y bytes maxL none ∈ wsL_law) (hnm : y.name = "<init>") (hy : y.cls ≠ "java/lang/invoke/MethodHandle" ∧ y.cls ≠ "java/lang/invoke/VarHandle" ∧ (parseMethodDescriptor y.desc).map (fun d => d.parameters.length) = some n) (m1 : Cond.methodLink own index y ∈ wsL_law) (hR : fr + 1 ≤ R.frames ∧ 8 + (maxL + 11) + lo ≤ R.locals)
    (hn : As.length = n) (hsz : ls.size = nL) (hst : st0 = As.reverse ++ .ref b :: rest) (hcat : (rest.map fun v => v.category).sum ≤ 8) (hdg : decode cc pc = .ok (.invokespecial index, 3)) (hf : cells + mc ≤ R.cells ∧ slots + ms ≤ R.slots)
    (kk : ∀ (w1 : va_W) (H1 : Heap) (locs1 : List Loc), B w1 → va_P D.1 sm_cl w1 H1 → va_D A w1 → va_S A H0 H1 locs1 → W p l e R s m args below meth c H1 locs1 (cells + mc) (slots + ms) Q (F0 m (pc + 3) ls rest)) : W p l e R s m args below meth c H locs cells slots Q (F0 m pc ls st0) := by
  obtain ⟨hx, hb, hml, -, hown, -, hts⟩ := hC
  exact sm_kI (va_runI (own := own) (y := y) (As := As) ⟨hx, hb, hml, hown, hts⟩ hM ⟨sm_callB hts rfl rfl m1 hini hcd hy hR, hnm, hts _ hin⟩ ⟨sm_blI, fun U hU hW => ⟨rfl, by rw [hU], by rw [hU]; exact hP, hK.warm hW, hD.weaken (fun _ _ _ _ => trivial)⟩⟩ rfl hn hsz hst (lv_room hcat) hdg hf) hD hS hA kk
theorem sm_vretI {w0 w1 : va_W} (hC : sm_Cx p s m args meth c cc nL none own) (hP : va_P D.1 sm_cl w1 H) (hD : va_D (va_A w0 s.heap.size) w1) (hS : va_S (va_A w0 s.heap.size) s.heap H locs) (hB : B w1) {mc ms : Nat} (hdg : decode cc pc = .ok (.return_, 1)) : W p l e R s m args below meth c H locs mc ms (MQ below (sm_Qi D w0 s.heap.size B) args s mc ms (va_A w0 s.heap.size)) (F0 m pc ls []) := by
  obtain ⟨hx, hb, hml, hr, hown, hlk, hts⟩ := hC
  exact W.vret hx hb hr (fun t ht hW => ⟨rfl, ⟨w1, hB, by rw [ht]; exact hP, hD⟩, hS.F ht⟩) hS.2.2 hdg hlk
/-- Object's own constructor -/
theorem sm_obj {idx : Nat} (hC : sm_Cx p s m args meth c cc nL rt own) (hl : Cond.methodLink own idx objectInit ∈ wsL_law) (hi : Cond.instanceMethod objectInit ∈ wsL_law) (hcd : Cond.code objectInit ⟨#[0xb1]⟩ 1 none ∈ wsL_law) (hsz : ls.size = nL) (hdg : decode cc pc = .ok (.invokespecial idx, 3)) (hf : 1 ≤ R.frames) (hlo : 12 ≤ R.locals)
    (kk : W p l e R s m args below meth c H locs cells slots Q (F0 m (pc + 3) ls [])) : W p l e R s m args below meth c H locs cells slots Q (F0 m pc ls [.ref a]) := by
  obtain ⟨hx, hb, hml, -, hown, -, hts⟩ := hC
  exact W.objInit hx hb hown (hts _ hl) (hts _ hi) (hts _ hcd) rfl (by rw [hml]; exact hsz) rfl hdg hf (by show 2 * 0 + 0 + 12 ≤ _; omega) kk
theorem sm_metI {B : State → Prop} {Qc : Array Value → State → Outcome → State → Prop} {mc ms : Nat} {free : Addr → Prop} {vs : List Value} {rm : Room} (hy : plainName y.cls = true) (ho : y.cls = own) (hnm : y.name = "<init>") (hlen : (lg_sl vs).length ≤ nL)
    (body : ∀ (p : Program) (e : Env) (s : State) (m : MethodId) (below : List Frame) (meth : Method) (c : Code) (ls : Array Slot), sm_Cx p s m vs.toArray meth c cc nL rt own → meth.name = "<init>" → B s → lv_has ls nL (lv_args 0 vs) → W p l e rm s m vs.toArray below meth c s.heap [] 0 0 (MQ below Qc vs.toArray s mc ms free) (F0 m 0 ls [])) : Met l y (.code y cc nL rt :: wsL_law) rm (va_Pc vs B) Qc mc ms free := by
  refine Met.ofW (cc := cc) (maxL := nL) (ret := rt) hy rfl ?_
  intro p e s m args below meth c s₁ B hml hv
  obtain ⟨rfl, hB⟩ := hv
  have hts0 := atoms_spec (ws := Cond.code y cc nL rt :: wsL_law) B.pre
  subst ho
  rw [lg_entry_eq]
  exact body p e s m below meth c _ ⟨B.exec, B.bytes, hml, B.returns, findClass_of_methodNamed B.named, B.notSynchronized, fun w h => hts0 w (List.mem_cons_of_mem _ h)⟩ ((name_of_methodNamed B.named B.method).1.trans hnm) hB (lv_entry vs hlen)
end SMN
