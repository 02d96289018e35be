/-! the proof's own rows: reads and writes of the worlds, calls of the three kinds, ends, throws -/
section SMR
variable {p : Program} {l : Launch} {e : Env} {R : Room} {s : State} {m : MethodId} {args : Array Value} {below : List Frame} {meth : Method} {c : Code} {H : Heap} {locs : List Loc} {cells slots : Nat} {Q : State → Prop}
variable {cc : ByteArray} {pc : Nat} {ls : Array Slot} {rest : List Value} {D : sm_G} {ws : va_W} {a : Nat} {H0 : Heap} {A : Nat → Prop}
theorem sm_gt (hx : p.tables.exec = Jvm.exec) (hb : c.code = cc) {own C : String} {T : u_T} {N ci index : Nat} (hts : ∀ w ∈ wsL_law, w.before args s = true) (hin : ∀ w ∈ u_ws C T N, w ∈ wsL_law) (hown : s.vm.findClass own = some m.cls) (hK : sm_K D s) (hP : va_P D.1 sm_cl ws H) (q0 : Nat) {fs : List Value} (he : ws[q0]? = some (a, .inr (ci, fs))) (hc : sm_cl[ci]? = some (C, T, N)) (k : Nat) (hk : k < N) (hlink : Cond.fieldLink own index (T k).1 (T k).2.1 (T k).2.2.1 ∈ wsL_law) {v : Value} (hv : fs[k]? = some v) (hdg : decode cc pc = .ok (.getfield index, 3))
    (kk : W p l e R s m args below meth c H locs cells slots Q (F0 m (pc + 3) ls (v :: rest))) : W p l e R s m args below meth c H locs cells slots Q (F0 m pc ls (.ref a :: rest)) :=
  va_get hx hb hts hin hown hK.1 hP q0 he hc k hk (hts _ hlink) (fun _ h => h) hv hdg kk
theorem sm_pt (hx : p.tables.exec = Jvm.exec) (hb : c.code = cc) {own C : String} {T : u_T} {N ci index : Nat} (hts : ∀ w ∈ wsL_law, w.before args s = true) (hin : ∀ w ∈ u_ws C T N, w ∈ wsL_law) (ty0 : Nat → FieldType) (hty : ∀ k, k < N → parseFieldDescriptor (T k).2.2.1 = some (ty0 k)) (hnm : ∀ a, a < N → ∀ b, b < N → a ≠ b → (T a).2.1 ≠ (T b).2.1) (hown : s.vm.findClass own = some m.cls) (hK : sm_K D s) (hP : va_P D.1 sm_cl ws H) (hD : va_D A ws) (hS0 : va_S A H0 H locs) (q0 : Nat) {fs : List Value} (he : ws[q0]? = some (a, .inr (ci, fs))) (hc : sm_cl[ci]? = some (C, T, N)) (k : Nat) (hk : k < N) (hlink : Cond.fieldLink own index (T k).1 (T k).2.1 (T k).2.2.1 ∈ wsL_law) (hfin : (T k).2.2.2 = false) {v : Value} (hn : narrow (ty0 k) v = v) (hfit : fits (ty0 k) v = true) (hl : k < fs.length)
    (hdg : decode cc pc = .ok (.putfield index, 3)) (kk : ∀ (H1 : Heap) (locs1 : List Loc), va_P D.1 sm_cl (ws.set q0 (a, .inr (ci, fs.set k v))) H1 → va_D A (ws.set q0 (a, .inr (ci, fs.set k v))) → va_S A H0 H1 locs1 → W p l e R s m args below meth c H1 locs1 cells slots Q (F0 m (pc + 3) ls rest)) : W p l e R s m args below meth c H locs cells slots Q (F0 m pc ls (v :: .ref a :: rest)) :=
  va_put hx hb hts hin ty0 hty hnm hown hK.1 hP hD hS0 q0 he hc k hk (hts _ hlink) (fun _ h => h) hfin (hty k hk) hn hfit hl hdg kk
theorem sm_ild (hx : p.tables.exec = Jvm.exec) (hb : c.code = cc) (hK : sm_K D s) (hP : va_P D.1 sm_cl ws H) (q0 : Nat) {n : Nat} {f : Nat → Int32} (ha : ws[q0]? = some (a, .inl (D.2 0, n, .inl f))) {i : Int32} (j : Nat) (hij : i = nI j) (hj : j < n) (hn : n < 2 ^ 31) (hdg : decode cc pc = .ok (.iaload, 1))
    (kk : W p l e R s m args below meth c H locs cells slots Q (F0 m (pc + 1) ls (.int (f j) :: rest))) : W p l e R s m args below meth c H locs cells slots Q (F0 m pc ls (.int i :: .ref a :: rest)) := by
  subst hij
  refine va_iald hx hb hK.1 hP q0 0 ha rfl (vp_in_nI hj hn) hdg ?_
  rw [nI_clamp (by omega)]
  exact kk
theorem sm_cld (hx : p.tables.exec = Jvm.exec) (hb : c.code = cc) (hK : sm_K D s) (hP : va_P D.1 sm_cl ws H) (q0 : Nat) {n : Nat} {f : Nat → Int32} (ha : ws[q0]? = some (a, .inl (D.2 2, n, .inl f))) {i : Int32} (j : Nat) (hij : i = nI j) (hj : j < n) (hn : n < 2 ^ 31) (hdg : decode cc pc = .ok (.caload, 1))
    (kk : W p l e R s m args below meth c H locs cells slots Q (F0 m (pc + 1) ls (.int (f j) :: rest))) : W p l e R s m args below meth c H locs cells slots Q (F0 m pc ls (.int i :: .ref a :: rest)) := by
  subst hij
  refine va_cald hx hb hK.1 hP q0 2 ha rfl (vp_in_nI hj hn) hdg ?_
  rw [nI_clamp (by omega)]
  exact kk
theorem sm_zld (hx : p.tables.exec = Jvm.exec) (hb : c.code = cc) (hK : sm_K D s) (hP : va_P D.1 sm_cl ws H) (q0 : Nat) {n : Nat} {f : Nat → Bool} (ha : ws[q0]? = some (a, .inl (D.2 1, n, .inl (fun j => sm_b (f j))))) {i : Int32} (j : Nat) (hij : i = nI j) (hj : j < n) (hn : n < 2 ^ 31) (hdg : decode cc pc = .ok (.baload, 1))
    (kk : W p l e R s m args below meth c H locs cells slots Q (F0 m (pc + 1) ls (.int (sm_b (f j)) :: rest))) : W p l e R s m args below meth c H locs cells slots Q (F0 m pc ls (.int i :: .ref a :: rest)) := by
  subst hij
  refine va_zald hx hb hK.1 hP q0 1 ha rfl (vp_in_nI hj hn) hdg ?_
  rw [nI_clamp (by omega)]
  exact kk
theorem sm_lld (hx : p.tables.exec = Jvm.exec) (hb : c.code = cc) (hK : sm_K D s) (hP : va_P D.1 sm_cl ws H) (q0 : Nat) {n : Nat} {f : Nat → Int64} (ha : ws[q0]? = some (a, .inl (D.2 3, n, .inr (.inl f)))) {i : Int32} (j : Nat) (hij : i = nI j) (hj : j < n) (hn : n < 2 ^ 31) (hdg : decode cc pc = .ok (.laload, 1))
    (kk : W p l e R s m args below meth c H locs cells slots Q (F0 m (pc + 1) ls (.long (f j) :: rest))) : W p l e R s m args below meth c H locs cells slots Q (F0 m pc ls (.int i :: .ref a :: rest)) := by
  subst hij
  refine va_lald hx hb hK.1 hP q0 3 ha rfl (vp_in_nI hj hn) hdg ?_
  rw [nI_clamp (by omega)]
  exact kk
theorem sm_dld (hx : p.tables.exec = Jvm.exec) (hb : c.code = cc) (hK : sm_K D s) (hP : va_P D.1 sm_cl ws H) (q0 : Nat) {n : Nat} {f : Nat → UInt64} (ha : ws[q0]? = some (a, .inl (D.2 4, n, .inr (.inr (.inr (.inl f)))))) {i : Int32} (j : Nat) (hij : i = nI j) (hj : j < n) (hn : n < 2 ^ 31) (hdg : decode cc pc = .ok (.daload, 1))
    (kk : W p l e R s m args below meth c H locs cells slots Q (F0 m (pc + 1) ls (.double (f j) :: rest))) : W p l e R s m args below meth c H locs cells slots Q (F0 m pc ls (.int i :: .ref a :: rest)) := by
  subst hij
  refine va_dald hx hb hK.1 hP q0 4 ha rfl (vp_in_nI hj hn) hdg ?_
  rw [nI_clamp (by omega)]
  exact kk
theorem sm_ist (hx : p.tables.exec = Jvm.exec) (hb : c.code = cc) (hK : sm_K D s) (hP : va_P D.1 sm_cl ws H) (hD : va_D A ws) (hS : va_S A H0 H locs) (q0 : Nat) {n : Nat} {f : Nat → Int32} (ha : ws[q0]? = some (a, .inl (D.2 0, n, .inl f))) {i x : Int32} (j : Nat) (hij : i = nI j) (hj : j < n) (hn : n < 2 ^ 31) (hdg : decode cc pc = .ok (.iastore, 1))
    (kk : ∀ (H1 : Heap) (locs1 : List Loc), va_P D.1 sm_cl (ws.set q0 (a, .inl (D.2 0, n, .inl (va_up f j x)))) H1 → va_D A (ws.set q0 (a, .inl (D.2 0, n, .inl (va_up f j x)))) → va_S A H0 H1 locs1 → W p l e R s m args below meth c H1 locs1 cells slots Q (F0 m (pc + 1) ls rest)) : W p l e R s m args below meth c H locs cells slots Q (F0 m pc ls (.int x :: .int i :: .ref a :: rest)) := by
  subst hij
  refine va_iast hx hb hK.1 hP hD hS q0 0 ha rfl (vp_in_nI hj hn) hdg (fun H1 locs1 h1 h2 h3 => ?_)
  rw [nI_clamp (by omega)] at h1 h2
  exact kk H1 locs1 h1 h2 h3
theorem sm_cst (hx : p.tables.exec = Jvm.exec) (hb : c.code = cc) (hK : sm_K D s) (hP : va_P D.1 sm_cl ws H) (hD : va_D A ws) (hS : va_S A H0 H locs) (q0 : Nat) {n : Nat} {f : Nat → Int32} (ha : ws[q0]? = some (a, .inl (D.2 2, n, .inl f))) {i x : Int32} (j : Nat) (hij : i = nI j) (hj : j < n) (hn : n < 2 ^ 31) (hc : vp_nar .char x = x) (hdg : decode cc pc = .ok (.castore, 1))
    (kk : ∀ (H1 : Heap) (locs1 : List Loc), va_P D.1 sm_cl (ws.set q0 (a, .inl (D.2 2, n, .inl (va_up f j x)))) H1 → va_D A (ws.set q0 (a, .inl (D.2 2, n, .inl (va_up f j x)))) → va_S A H0 H1 locs1 → W p l e R s m args below meth c H1 locs1 cells slots Q (F0 m (pc + 1) ls rest)) : W p l e R s m args below meth c H locs cells slots Q (F0 m pc ls (.int x :: .int i :: .ref a :: rest)) := by
  subst hij
  refine va_cast hx hb hK.1 hP hD hS q0 2 ha rfl (vp_in_nI hj hn) hdg (fun H1 locs1 h1 h2 h3 => ?_)
  rw [nI_clamp (by omega), hc] at h1 h2
  exact kk H1 locs1 h1 h2 h3
theorem sm_zup (f : Nat → Bool) (j : Nat) (b : Bool) : upd (fun k => sm_b (f k)) j (vp_nar .boolean (sm_b b)) = fun k => sm_b (va_up f j b k) := by
  have h : vp_nar .boolean (sm_b b) = sm_b b := by cases b <;> decide
  rw [h]
  funext k
  unfold upd va_up
  split <;> rfl
theorem sm_zst (hx : p.tables.exec = Jvm.exec) (hb : c.code = cc) (hK : sm_K D s) (hP : va_P D.1 sm_cl ws H) (hD : va_D A ws) (hS : va_S A H0 H locs) (q0 : Nat) {n : Nat} {f : Nat → Bool} (ha : ws[q0]? = some (a, .inl (D.2 1, n, .inl (fun j => sm_b (f j))))) {i x : Int32} (b : Bool) (hxb : x = sm_b b) (j : Nat) (hij : i = nI j) (hj : j < n) (hn : n < 2 ^ 31) (hdg : decode cc pc = .ok (.bastore, 1))
    (kk : ∀ (H1 : Heap) (locs1 : List Loc), va_P D.1 sm_cl (ws.set q0 (a, .inl (D.2 1, n, .inl (fun k => sm_b (va_up f j b k))))) H1 → va_D A (ws.set q0 (a, .inl (D.2 1, n, .inl (fun k => sm_b (va_up f j b k))))) → va_S A H0 H1 locs1 → W p l e R s m args below meth c H1 locs1 cells slots Q (F0 m (pc + 1) ls rest)) : W p l e R s m args below meth c H locs cells slots Q (F0 m pc ls (.int x :: .int i :: .ref a :: rest)) := by
  subst hij
  subst hxb
  refine va_zast hx hb hK.1 hP hD hS q0 1 ha rfl (vp_in_nI hj hn) hdg (fun H1 locs1 h1 h2 h3 => ?_)
  rw [nI_clamp (by omega), sm_zup] at h1 h2
  exact kk H1 locs1 h1 h2 h3
theorem sm_lst (hx : p.tables.exec = Jvm.exec) (hb : c.code = cc) (hK : sm_K D s) (hP : va_P D.1 sm_cl ws H) (hD : va_D A ws) (hS : va_S A H0 H locs) (q0 : Nat) {n : Nat} {f : Nat → Int64} (ha : ws[q0]? = some (a, .inl (D.2 3, n, .inr (.inl f)))) {i : Int32} {x : Int64} (j : Nat) (hij : i = nI j) (hj : j < n) (hn : n < 2 ^ 31) (hdg : decode cc pc = .ok (.lastore, 1))
    (kk : ∀ (H1 : Heap) (locs1 : List Loc), va_P D.1 sm_cl (ws.set q0 (a, .inl (D.2 3, n, .inr (.inl (va_up f j x))))) H1 → va_D A (ws.set q0 (a, .inl (D.2 3, n, .inr (.inl (va_up f j x))))) → va_S A H0 H1 locs1 → W p l e R s m args below meth c H1 locs1 cells slots Q (F0 m (pc + 1) ls rest)) : W p l e R s m args below meth c H locs cells slots Q (F0 m pc ls (.long x :: .int i :: .ref a :: rest)) := by
  subst hij
  refine va_last hx hb hK.1 hP hD hS q0 3 ha rfl (vp_in_nI hj hn) hdg (fun H1 locs1 h1 h2 h3 => ?_)
  rw [nI_clamp (by omega)] at h1 h2
  exact kk H1 locs1 h1 h2 h3
theorem sm_dst (hx : p.tables.exec = Jvm.exec) (hb : c.code = cc) (hK : sm_K D s) (hP : va_P D.1 sm_cl ws H) (hD : va_D A ws) (hS : va_S A H0 H locs) (q0 : Nat) {n : Nat} {f : Nat → UInt64} (ha : ws[q0]? = some (a, .inl (D.2 4, n, .inr (.inr (.inr (.inl f)))))) {i : Int32} {x : UInt64} (j : Nat) (hij : i = nI j) (hj : j < n) (hn : n < 2 ^ 31) (hdg : decode cc pc = .ok (.dastore, 1))
    (kk : ∀ (H1 : Heap) (locs1 : List Loc), va_P D.1 sm_cl (ws.set q0 (a, .inl (D.2 4, n, .inr (.inr (.inr (.inl (va_up f j x))))))) H1 → va_D A (ws.set q0 (a, .inl (D.2 4, n, .inr (.inr (.inr (.inl (va_up f j x))))))) → va_S A H0 H1 locs1 → W p l e R s m args below meth c H1 locs1 cells slots Q (F0 m (pc + 1) ls rest)) : W p l e R s m args below meth c H locs cells slots Q (F0 m pc ls (.double x :: .int i :: .ref a :: rest)) := by
  subst hij
  refine va_dast hx hb hK.1 hP hD hS q0 4 ha rfl (vp_in_nI hj hn) hdg (fun H1 locs1 h1 h2 h3 => ?_)
  rw [nI_clamp (by omega)] at h1 h2
  exact kk H1 locs1 h1 h2 h3
-- another name of the top of the stack
theorem sm_re {x y : Int32} (h : x = y) (k : W p l e R s m args below meth c H locs cells slots Q (F0 m pc ls (.int y :: rest))) : W p l e R s m args below meth c H locs cells slots Q (F0 m pc ls (.int x :: rest)) := h ▸ k
-- calls
/-- what the tables say of a callee, by its places in wsL_law: instance methods, static ones -/
def sm_yV (y : MethodName) (bytes : ByteArray) (maxL : Nat) (ret : Option FieldType) (n : Nat) : Prop := Cond.instanceMethod y ∈ wsL_law ∧ Cond.selects y.cls y y ∈ wsL_law ∧ Cond.initialized y.cls ∈ wsL_law ∧ Cond.code y bytes maxL ret ∈ wsL_law ∧ y.cls ≠ "java/lang/invoke/MethodHandle" ∧ y.cls ≠ "java/lang/invoke/VarHandle" ∧ (parseMethodDescriptor y.desc).map (fun d => d.parameters.length) = some n
def sm_yS (y : MethodName) (bytes : ByteArray) (maxL : Nat) (ret : Option FieldType) (n : Nat) : Prop := Cond.static y ∈ wsL_law ∧ Cond.initialized y.cls ∈ wsL_law ∧ Cond.code y bytes maxL ret ∈ wsL_law ∧ y.cls ≠ "java/lang/invoke/MethodHandle" ∧ y.cls ≠ "java/lang/invoke/VarHandle" ∧ (parseMethodDescriptor y.desc).map (fun d => d.parameters.length) = some n
variable {y : MethodName} {bytes : ByteArray} {maxL fr lo n index nL ci N : Nat} {ret rt : Option FieldType} {own C : String} {T : u_T} {b : Addr} {As st0 fs : List Value} {ov : Option Value} {B : va_W → Prop} {r : String ⊕ Option Value}
theorem sm_callB {rm : Room} {mc ms : Nat} (hts : ∀ w ∈ wsL_law, w.before args s = true) (hrc : rm.cells = mc) (hrs : rm.slots = ms) (m1 : Cond.methodLink own index y ∈ wsL_law) (m4 : Cond.initialized y.cls ∈ wsL_law) (m5 : Cond.code y bytes maxL ret ∈ wsL_law) (hy : y.cls ≠ "java/lang/invoke/MethodHandle" ∧ y.cls ≠ "java/lang/invoke/VarHandle" ∧ (parseMethodDescriptor y.desc).map (fun d => d.parameters.length) = some n) (hR : rm.frames + 1 ≤ R.frames ∧ 8 + (maxL + 11) + rm.locals ≤ R.locals) : CallB R s args own index y bytes maxL ret (.code y bytes maxL ret :: wsL_law) rm mc ms n := by
  refine ⟨hrc, hrs, hR.1, hR.2, fun w hw => ?_, List.mem_cons_self, hts _ m5, hts _ m4, ⟨hy.1, hy.2.1⟩, fun sig h => ?_, hts _ m1⟩
  · rcases List.mem_cons.mp hw with h | h
    · rw [h]; exact sm_pay hts _ m5
    · exact sm_pay hts _ h
  · have h2 := hy.2.2
    rw [h] at h2
    exact (Option.some.inj h2).symm
theorem sm_blP {vs : List Value} : FrameBlind (va_Pc vs (sm_Pp D ws)) := fun a U g mk q => ⟨q.1, q.2.1, q.2.2.call⟩
theorem sm_blX {vs : List Value} : FrameBlind (va_Pc vs (sm_Px D ws)) := fun a U g mk q => ⟨q.1, ⟨q.2.1.1, q.2.1.2.call⟩, q.2.2.1, sm_Z.moved (u := U) (U := U.calling g mk a) (Vm.Alike.refl U.vm) q.2.2.2⟩
theorem sm_adA (hD : va_D A ws) : ∀ q, sm_ad ws q → A q := fun q h => by obtain ⟨k, e, h⟩ := h; exact hD.2 k _ h
theorem sm_self (hD : va_D A ws) : va_D (sm_ad ws) ws := ⟨hD.1, fun k q h => ⟨k, q.2, h⟩⟩
theorem sm_Zn (hZ : sm_Z A s s.heap) (hD : va_D A ws) (hS : va_S A s.heap H locs) {U : State} (hU : U.heap = H) (hW : s.WarmedH U.vm) : sm_Z (sm_ad ws) U U.heap := by
  rw [hU]
  exact ((hZ.kept (fun q h1 h2 => hS.2.1 q h1 h2)).moved hW.alike).narrow (sm_adA hD)
theorem sm_nilP {Qc : Array Value → State → Outcome → State → Prop} {T' : State} {L : List Loc} (hL : ∀ q ∈ L, False) : L = [] := List.eq_nil_iff_forall_not_mem.mpr (fun q h => hL q h)
/-- the end of a call that changes nothing -/
theorem sm_kP {g : JFrame} {av : Array Value} (hr : va_Run p l e R s m args below meth c H locs cells slots 0 0 (F0 m pc ls st0) rest (sm_Qp ov av) (fun _ => False)) (kk : W p l e R s m args below meth c H locs cells slots Q (F0 m (pc + 3) ls (ov.toList ++ rest))) : W p l e R s m args below meth c H locs cells slots Q (F0 m pc ls st0) := by
  intro T hT X
  obtain ⟨v, st₀, t, T', L, h0, X', hL, e1, e2, ⟨hv, ht⟩, st⟩ := hr T hT X
  cases hv
  have hL0 : L = [] := List.eq_nil_iff_forall_not_mem.mpr (fun q h => hL q h)
  subst hL0
  rw [List.append_nil] at X'
  obtain ⟨t2, a1, b1⟩ := kk T' (by rw [e1, ht, h0]) X'
  exact ⟨t2, st t2 a1, b1⟩
theorem sm_keepD {w1 : va_W} (hD : va_D A ws) (h : va_D (sm_ad ws) w1) : va_D A w1 := h.weaken (fun _ _ _ z => sm_adA hD _ z)
/-- the end of a call that changes cells -/
theorem sm_kC {av : Array Value} (hr : va_Run p l e R s m args below meth c H locs cells slots 0 0 (F0 m pc ls st0) rest (sm_Qc D ws B ov av) (sm_ad ws)) (hD : va_D A ws) (hS : va_S A s.heap H locs)
    (kk : ∀ (w1 : va_W) (H1 : Heap) (locs1 : List Loc), B w1 → va_P D.1 sm_cl w1 H1 → va_D A w1 → va_S A s.heap H1 locs1 → W p l e R s m args below meth c H1 locs1 cells slots Q (F0 m (pc + 3) ls (ov.toList ++ rest))) : W p l e R s m args below meth c H locs cells slots Q (F0 m pc ls st0) := by
  intro T hT X
  obtain ⟨v, st₀, t, T', L, h0, X', hL, e1, e2, ⟨hv, ⟨w1, hB, hP1, hD1⟩, hF⟩, st⟩ := hr T hT X
  cases hv
  obtain ⟨-, -, k3⟩ := vx_keep (A0 := A) h0 e1 hS (fun q _ h => sm_adA hD q h) (sm_adA hD) hL hF
  obtain ⟨t2, a1, b1⟩ := kk w1 T'.heap (locs ++ L) hB (by rw [e1]; exact hP1) (sm_keepD hD hD1) k3 T' rfl X'
  exact ⟨t2, st t2 a1, b1⟩
/-- the end of a call that may throw -/
theorem sm_kX {av : Array Value} (hr : vx_Run p l e R s m args below meth c H locs cells slots 1 6 (F0 m pc ls st0) rest (sm_Qx D ws B r av) (sm_Xx D ws B r) (sm_ad ws)) (hD : va_D A ws) (hS : va_S A s.heap H locs)
    (kx : ∀ (E : String) (ce : Cell) (q9 : Addr) (w1 : va_W) (H1 : Heap) (locs1 : List Loc), r = .inl E → B w1 → va_P D.1 sm_cl w1 H1 → va_D A w1 → va_S A s.heap H1 locs1 → H1[q9]? = some ce → ce.vm = .none → s.vm.findClass E = some ce.cls → vx_W p l e R s m args below meth c H1 locs1 (cells + 1) (slots + 6) Q (F0 m pc ls rest) q9)
    (kk : ∀ (ov : Option Value) (w1 : va_W) (H1 : Heap) (locs1 : List Loc), r = .inr ov → B w1 → va_P D.1 sm_cl w1 H1 → va_D A w1 → va_S A s.heap H1 locs1 → W p l e R s m args below meth c H1 locs1 (cells + 1) (slots + 6) Q (F0 m (pc + 3) ls (ov.toList ++ rest))) : W p l e R s m args below meth c H locs cells slots Q (F0 m pc ls st0) := by
  intro T hT X
  rcases hr T hT X with ⟨v, st₀, t, T', L, h0, X', hL, e1, e2, ⟨⟨ov, hr1, hv⟩, ⟨w1, hB, hP1, hD1⟩, hF⟩, st⟩ | ⟨q, st₀, t, T', L, E, ce, h0, X', hL, e1, e2, ⟨hr1, ⟨w1, hB, hP1, hD1⟩, hF⟩, hce, hcv, hcl, st⟩
  · cases hv
    obtain ⟨-, -, k3⟩ := vx_keep (A0 := A) h0 e1 hS (fun q _ h => sm_adA hD q h) (sm_adA hD) hL hF
    obtain ⟨t2, a1, b1⟩ := kk v w1 T'.heap (locs ++ L) hr1 hB (by rw [e1]; exact hP1) (sm_keepD hD hD1) k3 T' rfl X'
    exact ⟨t2, st t2 a1, b1⟩
  · obtain ⟨-, -, k3⟩ := vx_keep (A0 := A) h0 e1 hS (fun q _ h => sm_adA hD q h) (sm_adA hD) hL hF
    obtain ⟨t2, a1, b1⟩ := kx E ce q w1 T'.heap (locs ++ L) hr1 hB (by rw [e1]; exact hP1) (sm_keepD hD hD1) k3 (by rw [e1]; exact hce) hcv hcl T' rfl X'
    exact ⟨t2, st.trans a1, b1⟩
theorem sm_cVP (hC : sm_Cx p s m args meth c cc nL rt own) (hK : sm_K D s) (hP : va_P D.1 sm_cl ws H) (hM : sm_MP l y bytes maxL ret fr lo (.ref b :: As) D ws ov) (hy : sm_yV y bytes maxL ret n) (m1 : Cond.methodLink own index y ∈ wsL_law) (hR : fr + 1 ≤ R.frames ∧ 8 + (maxL + 11) + lo ≤ R.locals)
    (q0 : Nat) (he : ws[q0]? = some (b, .inr (ci, fs))) (hc : sm_cl[ci]? = some (y.cls, T, N)) (hn : As.length = n) (hsz : ls.size = nL) (hst : st0 = As.reverse ++ .ref b :: rest) (hcat : (rest.map fun v => v.category).sum ≤ 8) (hdg : decode cc pc = .ok (.invokevirtual index, 3)) (hf : cells ≤ R.cells ∧ slots ≤ R.slots)
    (kk : W p l e R s m args below meth c H locs cells slots Q (F0 m (pc + 3) ls (ov.toList ++ rest))) : W p l e R s m args below meth c H locs cells slots Q (F0 m pc ls st0) := by
  obtain ⟨hx, hb, hml, -, hown, -, hts⟩ := hC
  refine sm_kP (g := F0 m pc ls st0) (va_runV (own := own) (y := y) (C := y.cls) (b := b) (As := As) ⟨hx, hb, hml, hown, hts⟩ hM ⟨sm_callB hts rfl rfl m1 hy.2.2.1 hy.2.2.2.1 hy.2.2.2.2 hR, hts _ hy.1, hts _ hy.2.1⟩ ⟨sm_blP, va_recv hK.1 hP hc he, fun U hU hW => ⟨rfl, by rw [hU]; exact hP, hK.warm hW⟩⟩ rfl hn hsz hst (lv_room hcat) hdg ⟨by omega, by omega⟩) kk
theorem sm_cVC (hC : sm_Cx p s m args meth c cc nL rt own) (hK : sm_K D s) (hP : va_P D.1 sm_cl ws H) (hD : va_D A ws) (hS : va_S A s.heap H locs) (hZ : sm_Z A s s.heap) (hM : sm_MC l y bytes maxL ret fr lo (.ref b :: As) D ws B ov) (hy : sm_yV y bytes maxL ret n) (m1 : Cond.methodLink own index y ∈ wsL_law) (hR : fr + 1 ≤ R.frames ∧ 8 + (maxL + 11) + lo ≤ R.locals)
    (q0 : Nat) (he : ws[q0]? = some (b, .inr (ci, fs))) (hc : sm_cl[ci]? = some (y.cls, T, N)) (hn : As.length = n) (hsz : ls.size = nL) (hst : st0 = As.reverse ++ .ref b :: rest) (hcat : (rest.map fun v => v.category).sum ≤ 8) (hdg : decode cc pc = .ok (.invokevirtual index, 3)) (hf : cells ≤ R.cells ∧ slots ≤ R.slots)
    (kk : ∀ (w1 : va_W) (H1 : Heap) (locs1 : List Loc), B w1 → va_P D.1 sm_cl w1 H1 → va_D A w1 → va_S A s.heap H1 locs1 → W p l e R s m args below meth c H1 locs1 cells slots Q (F0 m (pc + 3) ls (ov.toList ++ rest))) : W p l e R s m args below meth c H locs cells slots Q (F0 m pc ls st0) := by
  obtain ⟨hx, hb, hml, -, hown, -, hts⟩ := hC
  refine sm_kC (va_runV (own := own) (y := y) (C := y.cls) (b := b) (As := As) ⟨hx, hb, hml, hown, hts⟩ hM ⟨sm_callB hts rfl rfl m1 hy.2.2.1 hy.2.2.2.1 hy.2.2.2.2 hR, hts _ hy.1, hts _ hy.2.1⟩ ⟨sm_blX, va_recv hK.1 hP hc he, fun U hU hW => ⟨rfl, ⟨by rw [hU]; exact hP, hK.warm hW⟩, sm_self hD, sm_Zn hZ hD hS hU hW⟩⟩ rfl hn hsz hst (lv_room hcat) hdg ⟨by omega, by omega⟩) hD hS kk
theorem sm_cVX (hC : sm_Cx p s m args meth c cc nL rt own) (hK : sm_K D s) (hP : va_P D.1 sm_cl ws H) (hD : va_D A ws) (hS : va_S A s.heap H locs) (hZ : sm_Z A s s.heap) (hM : sm_MX l y bytes maxL ret fr lo (.ref b :: As) D ws B r) (hy : sm_yV y bytes maxL ret n) (m1 : Cond.methodLink own index y ∈ wsL_law) (hR : fr + 1 ≤ R.frames ∧ 8 + (maxL + 11) + lo ≤ R.locals)
    (q0 : Nat) (he : ws[q0]? = some (b, .inr (ci, fs))) (hc : sm_cl[ci]? = some (y.cls, T, N)) (hn : As.length = n) (hsz : ls.size = nL) (hst : st0 = As.reverse ++ .ref b :: rest) (hcat : (rest.map fun v => v.category).sum ≤ 8) (hdg : decode cc pc = .ok (.invokevirtual index, 3)) (hf : cells + 1 ≤ R.cells ∧ slots + 6 ≤ R.slots)
    (kx : ∀ (E : String) (ce : Cell) (q9 : Addr) (w1 : va_W) (H1 : Heap) (locs1 : List Loc), r = .inl E → B w1 → va_P D.1 sm_cl w1 H1 → va_D A w1 → va_S A s.heap H1 locs1 → H1[q9]? = some ce → ce.vm = .none → s.vm.findClass E = some ce.cls → vx_W p l e R s m args below meth c H1 locs1 (cells + 1) (slots + 6) Q (F0 m pc ls rest) q9)
    (kk : ∀ (ov : Option Value) (w1 : va_W) (H1 : Heap) (locs1 : List Loc), r = .inr ov → B w1 → va_P D.1 sm_cl w1 H1 → va_D A w1 → va_S A s.heap H1 locs1 → W p l e R s m args below meth c H1 locs1 (cells + 1) (slots + 6) Q (F0 m (pc + 3) ls (ov.toList ++ rest))) : W p l e R s m args below meth c H locs cells slots Q (F0 m pc ls st0) := by
  obtain ⟨hx, hb, hml, -, hown, -, hts⟩ := hC
  refine sm_kX (vx_runV (own := own) (y := y) (C := y.cls) (b := b) (As := As) ⟨hx, hb, hml, hown, hts⟩ hM ⟨sm_callB hts rfl rfl m1 hy.2.2.1 hy.2.2.2.1 hy.2.2.2.2 hR, hts _ hy.1, hts _ hy.2.1⟩ ⟨sm_blX, va_recv hK.1 hP hc he, fun U hU hW => ⟨rfl, ⟨by rw [hU]; exact hP, hK.warm hW⟩, sm_self hD, sm_Zn hZ hD hS hU hW⟩⟩ rfl hn hsz hst (lv_room hcat) hdg hf) hD hS kx kk
theorem sm_cSP (hC : sm_Cx p s m args meth c cc nL rt own) (hK : sm_K D s) (hP : va_P D.1 sm_cl ws H) (hM : sm_MP l y bytes maxL ret fr lo As D ws ov) (hy : sm_yS y bytes maxL ret n) (m1 : Cond.methodLink own index y ∈ wsL_law) (hR : fr + 1 ≤ R.frames ∧ 8 + (maxL + 11) + lo ≤ R.locals)
    (hn : As.length = n) (hsz : ls.size = nL) (hst : st0 = As.reverse ++ rest) (hcat : (rest.map fun v => v.category).sum ≤ 8) (hdg : decode cc pc = .ok (.invokestatic index, 3)) (hf : cells ≤ R.cells ∧ slots ≤ R.slots)
    (kk : W p l e R s m args below meth c H locs cells slots Q (F0 m (pc + 3) ls (ov.toList ++ rest))) : W p l e R s m args below meth c H locs cells slots Q (F0 m pc ls st0) := by
  obtain ⟨hx, hb, hml, -, hown, -, hts⟩ := hC
  refine sm_kP (g := F0 m pc ls st0) (va_runS (own := own) (y := y) (As := As) ⟨hx, hb, hml, hown, hts⟩ hM ⟨sm_callB hts rfl rfl m1 hy.2.1 hy.2.2.1 hy.2.2.2 hR, hts _ hy.1⟩ ⟨sm_blP, fun U hU hW => ⟨rfl, by rw [hU]; exact hP, hK.warm hW⟩⟩ rfl hn hsz hst (lv_room hcat) hdg ⟨by omega, by omega⟩) kk
theorem sm_cSX (hC : sm_Cx p s m args meth c cc nL rt own) (hK : sm_K D s) (hP : va_P D.1 sm_cl ws H) (hD : va_D A ws) (hS : va_S A s.heap H locs) (hZ : sm_Z A s s.heap) (hM : sm_MX l y bytes maxL ret fr lo As D ws B r) (hy : sm_yS y bytes maxL ret n) (m1 : Cond.methodLink own index y ∈ wsL_law) (hR : fr + 1 ≤ R.frames ∧ 8 + (maxL + 11) + lo ≤ R.locals)
    (hn : As.length = n) (hsz : ls.size = nL) (hst : st0 = As.reverse ++ rest) (hcat : (rest.map fun v => v.category).sum ≤ 8) (hdg : decode cc pc = .ok (.invokestatic index, 3)) (hf : cells + 1 ≤ R.cells ∧ slots + 6 ≤ R.slots)
    (kx : ∀ (E : String) (ce : Cell) (q9 : Addr) (w1 : va_W) (H1 : Heap) (locs1 : List Loc), r = .inl E → B w1 → va_P D.1 sm_cl w1 H1 → va_D A w1 → va_S A s.heap H1 locs1 → H1[q9]? = some ce → ce.vm = .none → s.vm.findClass E = some ce.cls → vx_W p l e R s m args below meth c H1 locs1 (cells + 1) (slots + 6) Q (F0 m pc ls rest) q9)
    (kk : ∀ (ov : Option Value) (w1 : va_W) (H1 : Heap) (locs1 : List Loc), r = .inr ov → B w1 → va_P D.1 sm_cl w1 H1 → va_D A w1 → va_S A s.heap H1 locs1 → W p l e R s m args below meth c H1 locs1 (cells + 1) (slots + 6) Q (F0 m (pc + 3) ls (ov.toList ++ rest))) : W p l e R s m args below meth c H locs cells slots Q (F0 m pc ls st0) := by
  obtain ⟨hx, hb, hml, -, hown, -, hts⟩ := hC
  refine sm_kX (vx_runS (own := own) (y := y) (As := As) ⟨hx, hb, hml, hown, hts⟩ hM ⟨sm_callB hts rfl rfl m1 hy.2.1 hy.2.2.1 hy.2.2.2 hR, hts _ hy.1⟩ ⟨sm_blX, fun U hU hW => ⟨rfl, ⟨by rw [hU]; exact hP, hK.warm hW⟩, sm_self hD, sm_Zn hZ hD hS hU hW⟩⟩ rfl hn hsz hst (lv_room hcat) hdg hf) hD hS kx kk
/-- a private static of a nest mate -/
theorem sm_cNP {host : String} (hC : sm_Cx p s m args meth c cc nL rt own) (hK : sm_K D s) (hP : va_P D.1 sm_cl ws H) (hM : sm_MP l y bytes maxL ret fr lo As D ws ov) (hy : sm_yS y bytes maxL ret n) (m1 : (own, index, y, host) ∈ sm_nm) (hR : fr + 1 ≤ R.frames ∧ 8 + (maxL + 11) + lo ≤ R.locals)
    (hn : As.length = n) (hsz : ls.size = nL) (hst : st0 = As.reverse ++ rest) (hcat : (rest.map fun v => v.category).sum ≤ 8) (hdg : decode cc pc = .ok (.invokestatic index, 3)) (hf : cells ≤ R.cells ∧ slots ≤ R.slots)
    (kk : W p l e R s m args below meth c H locs cells slots Q (F0 m (pc + 3) ls (ov.toList ++ rest))) : W p l e R s m args below meth c H locs cells slots Q (F0 m pc ls st0) := by
  obtain ⟨hx, hb, hml, -, hown, -, hts⟩ := hC
  have hN : va_CN R s args own index y host bytes maxL ret (.code y bytes maxL ret :: wsL_law) ({ frames := fr, cells := 0, slots := 0, locals := lo } : Room) 0 0 n := va_cnB (Ts := wsL_law) n hts (fun w hw => by
    rcases List.mem_cons.mp hw with h | h
    · rw [h]; exact ⟨hy.2.2.1, good_of_word (List.all_eq_true.mp sm_all _ hy.2.2.1)⟩
    · exact ⟨h, good_of_word (List.all_eq_true.mp sm_all _ h)⟩) rfl rfl rfl (hK.2.1 _ m1) (hts _ hy.2.1) hy.2.2.2 hR
  refine sm_kP (g := F0 m pc ls st0) (va_runSN (own := own) (y := y) (As := As) ⟨hx, hb, hml, hown, hts⟩ hM ⟨hN, hts _ hy.1, trivial⟩ ⟨sm_blP, fun U hU hW => ⟨rfl, by rw [hU]; exact hP, hK.warm hW⟩⟩ rfl hn hsz hst (lv_room hcat) hdg ⟨by omega, by omega⟩) kk
-- ends
theorem sm_retP {v : Int32} {ty : FieldType} (hC : sm_Cx p s m args meth c cc nL (some ty) own) (hv : ov = some (.int v)) (hn : narrow ty (.int v) = .int v) {mc ms : Nat} (hdg : decode cc pc = .ok (.ireturn, 1)) : W p l e R s m args below meth c s.heap [] mc ms (MQ below (sm_Qp ov) args s mc ms (fun _ => False)) (F0 m pc ls [.int v]) := by
  obtain ⟨hx, hb, hml, hr, hown, hlk, hts⟩ := hC
  subst hv
  exact W.zret hx hb hr hn (fun t ht hW => ⟨rfl, ht⟩) (fun q hq => absurd hq List.not_mem_nil) hdg hlk
theorem sm_lretP {v : Int64} (hC : sm_Cx p s m args meth c cc nL (some .long) own) (hv : ov = some (.long v)) {mc ms : Nat} (hdg : decode cc pc = .ok (.lreturn, 1)) : W p l e R s m args below meth c s.heap [] mc ms (MQ below (sm_Qp ov) args s mc ms (fun _ => False)) (F0 m pc ls [.long v]) := by
  obtain ⟨hx, hb, hml, hr, hown, hlk, hts⟩ := hC
  subst hv
  exact W.lret hx hb hr (fun t ht hW => ⟨rfl, ht⟩) (fun q hq => absurd hq List.not_mem_nil) hdg hlk
theorem sm_vretP (hC : sm_Cx p s m args meth c cc nL none own) (hv : ov = none) {mc ms : Nat} (hdg : decode cc pc = .ok (.return_, 1)) : W p l e R s m args below meth c s.heap [] mc ms (MQ below (sm_Qp ov) args s mc ms (fun _ => False)) (F0 m pc ls []) := by
  obtain ⟨hx, hb, hml, hr, hown, hlk, hts⟩ := hC
  subst hv
  exact W.vret hx hb hr (fun t ht hW => ⟨rfl, ht⟩) (fun q hq => absurd hq List.not_mem_nil) hdg hlk
theorem sm_ch {w0 w1 : va_W} (hP : va_P D.1 sm_cl w1 H) (hD : va_D (sm_ad w0) w1) (hS : va_S (sm_ad w0) s.heap H locs) (hB : B w1) {t : State} (ht : t.heap = H) : sm_Ch D w0 B s t := ⟨⟨w1, hB, by rw [ht]; exact hP, hD⟩, hS.F ht⟩
theorem sm_retC {w0 w1 : va_W} {v : Int32} {ty : FieldType} (hC : sm_Cx p s m args meth c cc nL (some ty) own) (hP : va_P D.1 sm_cl w1 H) (hD : va_D (sm_ad w0) w1) (hS : va_S (sm_ad w0) s.heap H locs) (hv : ov = some (.int v)) (hn : narrow ty (.int v) = .int v) (hB : B w1) {mc ms : Nat} (hdg : decode cc pc = .ok (.ireturn, 1)) : W p l e R s m args below meth c H locs mc ms (MQ below (sm_Qc D w0 B ov) args s mc ms (sm_ad w0)) (F0 m pc ls [.int v]) := by
  obtain ⟨hx, hb, hml, hr, hown, hlk, hts⟩ := hC
  subst hv
  exact W.zret hx hb hr hn (fun t ht hW => ⟨rfl, sm_ch hP hD hS hB ht⟩) hS.2.2 hdg hlk
theorem sm_lretC {w0 w1 : va_W} {v : Int64} (hC : sm_Cx p s m args meth c cc nL (some .long) own) (hP : va_P D.1 sm_cl w1 H) (hD : va_D (sm_ad w0) w1) (hS : va_S (sm_ad w0) s.heap H locs) (hv : ov = some (.long v)) (hB : B w1) {mc ms : Nat} (hdg : decode cc pc = .ok (.lreturn, 1)) : W p l e R s m args below meth c H locs mc ms (MQ below (sm_Qc D w0 B ov) args s mc ms (sm_ad w0)) (F0 m pc ls [.long v]) := by
  obtain ⟨hx, hb, hml, hr, hown, hlk, hts⟩ := hC
  subst hv
  exact W.lret hx hb hr (fun t ht hW => ⟨rfl, sm_ch hP hD hS hB ht⟩) hS.2.2 hdg hlk
theorem sm_fretC {w0 w1 : va_W} {v : UInt32} (hC : sm_Cx p s m args meth c cc nL (some .float) own) (hP : va_P D.1 sm_cl w1 H) (hD : va_D (sm_ad w0) w1) (hS : va_S (sm_ad w0) s.heap H locs) (hv : ov = some (.float v)) (hB : B w1) {mc ms : Nat} (hdg : decode cc pc = .ok (.freturn, 1)) : W p l e R s m args below meth c H locs mc ms (MQ below (sm_Qc D w0 B ov) args s mc ms (sm_ad w0)) (F0 m pc ls [.float v]) := by
  obtain ⟨hx, hb, hml, hr, hown, hlk, hts⟩ := hC
  subst hv
  exact W.fret hx hb hr (fun t ht hW => ⟨rfl, sm_ch hP hD hS hB ht⟩) hS.2.2 hdg hlk
theorem sm_dretC {w0 w1 : va_W} {v : UInt64} (hC : sm_Cx p s m args meth c cc nL (some .double) own) (hP : va_P D.1 sm_cl w1 H) (hD : va_D (sm_ad w0) w1) (hS : va_S (sm_ad w0) s.heap H locs) (hv : ov = some (.double v)) (hB : B w1) {mc ms : Nat} (hdg : decode cc pc = .ok (.dreturn, 1)) : W p l e R s m args below meth c H locs mc ms (MQ below (sm_Qc D w0 B ov) args s mc ms (sm_ad w0)) (F0 m pc ls [.double v]) := by
  obtain ⟨hx, hb, hml, hr, hown, hlk, hts⟩ := hC
  subst hv
  exact W.dret hx hb hr (fun t ht hW => ⟨rfl, sm_ch hP hD hS hB ht⟩) hS.2.2 hdg hlk
theorem sm_vretC {w0 w1 : va_W} (hC : sm_Cx p s m args meth c cc nL none own) (hP : va_P D.1 sm_cl w1 H) (hD : va_D (sm_ad w0) w1) (hS : va_S (sm_ad w0) s.heap H locs) (hv : ov = none) (hB : B w1) {mc ms : Nat} (hdg : decode cc pc = .ok (.return_, 1)) : W p l e R s m args below meth c H locs mc ms (MQ below (sm_Qc D w0 B ov) args s mc ms (sm_ad w0)) (F0 m pc ls []) := by
  obtain ⟨hx, hb, hml, hr, hown, hlk, hts⟩ := hC
  subst hv
  exact W.vret hx hb hr (fun t ht hW => ⟨rfl, sm_ch hP hD hS hB ht⟩) hS.2.2 hdg hlk
theorem sm_retX {w0 w1 : va_W} {v : Int32} {ty : FieldType} (hC : sm_Cx p s m args meth c cc nL (some ty) own) (hP : va_P D.1 sm_cl w1 H) (hD : va_D (sm_ad w0) w1) (hS : va_S (sm_ad w0) s.heap H locs) (hv : r = .inr (some (.int v))) (hn : narrow ty (.int v) = .int v) (hB : B w1) {XC : String → State → State → Prop} (hc : cells ≤ 1) (hs : slots ≤ 6) (hdg : decode cc pc = .ok (.ireturn, 1)) : W p l e R s m args below meth c H locs cells slots (vx_MQ below (sm_Qx D w0 B r) XC args s 1 6 (sm_ad w0)) (F0 m pc ls [.int v]) := by
  obtain ⟨hx, hb, hml, hr, hown, hlk, hts⟩ := hC
  refine W.widen (k := 1) (n := 6) hc hs (vx_ret ?_)
  exact W.zret hx hb hr hn (fun t ht hW => ⟨⟨_, hv, rfl⟩, sm_ch hP hD hS hB ht⟩) hS.2.2 hdg hlk
theorem sm_lretX {w0 w1 : va_W} {v : Int64} (hC : sm_Cx p s m args meth c cc nL (some .long) own) (hP : va_P D.1 sm_cl w1 H) (hD : va_D (sm_ad w0) w1) (hS : va_S (sm_ad w0) s.heap H locs) (hv : r = .inr (some (.long v))) (hB : B w1) {XC : String → State → State → Prop} (hc : cells ≤ 1) (hs : slots ≤ 6) (hdg : decode cc pc = .ok (.lreturn, 1)) : W p l e R s m args below meth c H locs cells slots (vx_MQ below (sm_Qx D w0 B r) XC args s 1 6 (sm_ad w0)) (F0 m pc ls [.long v]) := by
  obtain ⟨hx, hb, hml, hr, hown, hlk, hts⟩ := hC
  refine W.widen (k := 1) (n := 6) hc hs (vx_ret ?_)
  exact W.lret hx hb hr (fun t ht hW => ⟨⟨_, hv, rfl⟩, sm_ch hP hD hS hB ht⟩) hS.2.2 hdg hlk
theorem sm_fretX {w0 w1 : va_W} {v : UInt32} (hC : sm_Cx p s m args meth c cc nL (some .float) own) (hP : va_P D.1 sm_cl w1 H) (hD : va_D (sm_ad w0) w1) (hS : va_S (sm_ad w0) s.heap H locs) (hv : r = .inr (some (.float v))) (hB : B w1) {XC : String → State → State → Prop} (hc : cells ≤ 1) (hs : slots ≤ 6) (hdg : decode cc pc = .ok (.freturn, 1)) : W p l e R s m args below meth c H locs cells slots (vx_MQ below (sm_Qx D w0 B r) XC args s 1 6 (sm_ad w0)) (F0 m pc ls [.float v]) := by
  obtain ⟨hx, hb, hml, hr, hown, hlk, hts⟩ := hC
  refine W.widen (k := 1) (n := 6) hc hs (vx_ret ?_)
  exact W.fret hx hb hr (fun t ht hW => ⟨⟨_, hv, rfl⟩, sm_ch hP hD hS hB ht⟩) hS.2.2 hdg hlk
theorem sm_dretX {w0 w1 : va_W} {v : UInt64} (hC : sm_Cx p s m args meth c cc nL (some .double) own) (hP : va_P D.1 sm_cl w1 H) (hD : va_D (sm_ad w0) w1) (hS : va_S (sm_ad w0) s.heap H locs) (hv : r = .inr (some (.double v))) (hB : B w1) {XC : String → State → State → Prop} (hc : cells ≤ 1) (hs : slots ≤ 6) (hdg : decode cc pc = .ok (.dreturn, 1)) : W p l e R s m args below meth c H locs cells slots (vx_MQ below (sm_Qx D w0 B r) XC args s 1 6 (sm_ad w0)) (F0 m pc ls [.double v]) := by
  obtain ⟨hx, hb, hml, hr, hown, hlk, hts⟩ := hC
  refine W.widen (k := 1) (n := 6) hc hs (vx_ret ?_)
  exact W.dret hx hb hr (fun t ht hW => ⟨⟨_, hv, rfl⟩, sm_ch hP hD hS hB ht⟩) hS.2.2 hdg hlk
theorem sm_vretX {w0 w1 : va_W} (hC : sm_Cx p s m args meth c cc nL none own) (hP : va_P D.1 sm_cl w1 H) (hD : va_D (sm_ad w0) w1) (hS : va_S (sm_ad w0) s.heap H locs) (hv : r = .inr none) (hB : B w1) {XC : String → State → State → Prop} (hc : cells ≤ 1) (hs : slots ≤ 6) (hdg : decode cc pc = .ok (.return_, 1)) : W p l e R s m args below meth c H locs cells slots (vx_MQ below (sm_Qx D w0 B r) XC args s 1 6 (sm_ad w0)) (F0 m pc ls []) := by
  obtain ⟨hx, hb, hml, hr, hown, hlk, hts⟩ := hC
  refine W.widen (k := 1) (n := 6) hc hs (vx_ret ?_)
  exact W.vret hx hb hr (fun t ht hW => ⟨⟨_, hv, rfl⟩, sm_ch hP hD hS hB ht⟩) hS.2.2 hdg hlk
-- a thrown exception goes through a method without a table
theorem sm_thru {w0 w1 : va_W} {E : String} {ce : Cell} {q9 : Addr} (hC : sm_Cx p s m args meth c cc nL rt own) (htab : ∀ x ∈ c.exceptionTable.toList, False) (hP : va_P D.1 sm_cl w1 H) (hD : va_D (sm_ad w0) w1) (hS : va_S (sm_ad w0) s.heap H locs) (hv : r = .inl E) (hB : B w1) {Qc : Array Value → State → Outcome → State → Prop} (h1 : H[q9]? = some ce) (h2 : ce.vm = .none) (h3 : s.vm.findClass E = some ce.cls) (hc : cells ≤ 1) (hs : slots ≤ 6) : vx_W p l e R s m args below meth c H locs cells slots (vx_MQ below Qc (sm_Xx D w0 B r) args s 1 6 (sm_ad w0)) (F0 m pc ls rest) q9 := by
  obtain ⟨hx, hb, hml, hr, hown, hlk, hts⟩ := hC
  exact vx_out (fun x h => (htab x h).elim) hlk h1 h2 h3 (fun t ht hW => ⟨hv, sm_ch hP hD hS hB ht⟩) hS.2.2 hc hs
end SMR
