/-! the law's helpers: each calls the class, keeps its answer in a one-element array, or says which exception came -/
def sm_Qh (D : sm_G) (ws : va_W) (B : Int32 → va_W → Prop) : Array Value → State → Outcome → State → Prop := fun _ st oc t => ∃ k : Int32, oc = .returned (some (.int k)) ∧ sm_Ch D ws (B k) st t
abbrev sm_MH (l : Launch) (y : MethodName) (cc : ByteArray) (nL : Nat) (hh : List (Nat × Nat × Nat × Nat)) (fr lo : Nat) (vs : List Value) (D : sm_G) (ws : va_W) (B : Int32 → va_W → Prop) : Prop := vx_Met l y (.codeWith y cc nL (some .int) hh :: wsL_law) ({ frames := fr, cells := 1, slots := 6, locals := lo } : Room) (va_Pc vs (sm_Px D ws)) (sm_Qh D ws B) (fun _ _ _ => False) 1 6 (sm_ad ws)
/-- what a helper leaves: the answer v stored (F v e0 e1) in the array o at the place q0 of the world, and 0; or the number of the exception -/
def sm_Bh (q0 o : Nat) (B : va_W → Prop) (r : String ⊕ Option Value) (hs : List String) (F : Value → va_E → va_E → Prop) (k : Int32) (w1 : va_W) : Prop :=
  (∃ (v : Value) (e0 e1 : va_E) (w0 : va_W), r = .inr (some v) ∧ k = 0 ∧ B w0 ∧ w0[q0]? = some (o, e0) ∧ F v e0 e1 ∧ w1 = w0.set q0 (o, e1)) ∨ ∃ (i : Nat) (E : String), r = .inl E ∧ hs[i]? = some E ∧ k = nI (i + 1) ∧ B w1
def sm_FI (D : sm_G) (v : Value) (e0 e1 : va_E) : Prop := ∃ (x : Int32) (g : Nat → Int64), v = .int x ∧ e0 = .inl (D.2 3, 1, .inr (.inl g)) ∧ e1 = .inl (D.2 3, 1, .inr (.inl (va_up g 0 x.toInt64)))
def sm_FZ (D : sm_G) (v : Value) (e0 e1 : va_E) : Prop := ∃ (x : Bool) (g : Nat → Int64), v = .int (sm_b x) ∧ e0 = .inl (D.2 3, 1, .inr (.inl g)) ∧ e1 = .inl (D.2 3, 1, .inr (.inl (va_up g 0 (if x = true then 1 else 0))))
def sm_FL (D : sm_G) (v : Value) (e0 e1 : va_E) : Prop := ∃ (x : Int64) (g : Nat → Int64), v = .long x ∧ e0 = .inl (D.2 3, 1, .inr (.inl g)) ∧ e1 = .inl (D.2 3, 1, .inr (.inl (va_up g 0 x)))
def sm_FF (D : sm_G) (v : Value) (e0 e1 : va_E) : Prop := ∃ (x : UInt32) (g : Nat → UInt64), v = .float x ∧ e0 = .inl (D.2 4, 1, .inr (.inr (.inr (.inl g)))) ∧ e1 = .inl (D.2 4, 1, .inr (.inr (.inr (.inl (va_up g 0 (FP.f2d x))))))
def sm_FD (D : sm_G) (v : Value) (e0 e1 : va_E) : Prop := ∃ (x : UInt64) (g : Nat → UInt64), v = .double x ∧ e0 = .inl (D.2 4, 1, .inr (.inr (.inr (.inl g)))) ∧ e1 = .inl (D.2 4, 1, .inr (.inr (.inr (.inl (va_up g 0 x)))))
def sm_yH (y : MethodName) (cc : ByteArray) (nL : Nat) (hh : List (Nat × Nat × Nat × Nat)) (n : Nat) : Prop := Cond.static y ∈ wsL_law ∧ Cond.initialized y.cls ∈ wsL_law ∧ Cond.codeWith y cc nL (some .int) hh ∈ wsL_law ∧ (y.cls ≠ "java/lang/invoke/MethodHandle" ∧ y.cls ≠ "java/lang/invoke/VarHandle" ∧ (parseMethodDescriptor y.desc).map (fun d => d.parameters.length) = some n)
theorem sm_metH {l : Launch} {y : MethodName} {cc : ByteArray} {nL : Nat} {hh : List (Nat × Nat × Nat × Nat)} {rm : Room} {Qc : Array Value → State → Outcome → State → Prop} {XC : String → State → State → Prop} {mc ms : Nat} {free : Addr → Prop} {own : String} {vs : List Value} {B : State → Prop} (hy : plainName y.cls = true) (ho : y.cls = own) (hlen : (lg_sl vs).length ≤ nL)
    (body : ∀ (p : Program) (e : Env) (s : State) (m : MethodId) (below : List Frame) (meth : Method) (c : Code) (ls : Array Slot), sm_Cx p s m vs.toArray meth c cc nL (some .int) own → c.exceptionTable.toList = tableOf hh → B s → lv_has ls nL (lv_args 0 vs) → W p l e rm s m vs.toArray below meth c s.heap [] 0 0 (vx_MQ below Qc XC vs.toArray s mc ms free) (F0 m 0 ls [])) : vx_Met l y (.codeWith y cc nL (some .int) hh :: wsL_law) rm (va_Pc vs B) Qc XC mc ms free := by
  refine vx_ofWH (cc := cc) (maxL := nL) (ret := some .int) (hh := hh) hy rfl ?_
  intro p e s m args below meth c s₁ B hml hv
  obtain ⟨rfl, hB⟩ := hv
  have hts0 := atoms_spec (ws := Cond.codeWith y cc nL (some .int) hh :: wsL_law) B.pre
  have htab := vx_table (x := y) B (hts0 _ List.mem_cons_self)
  subst ho
  rw [lg_entry_eq]
  exact body p e s m below meth c _ ⟨B.exec, B.bytes, hml, B.returns, findClass_of_methodNamed B.named, B.notSynchronized, fun w h => hts0 w (List.mem_cons_of_mem _ h)⟩ htab hB (lv_entry vs hlen)
section SMH
variable {p : Program} {l : Launch} {e : Env} {R : Room} {s : State} {m : MethodId} {args : Array Value} {below : List Frame} {meth : Method} {c : Code} {H : Heap} {locs : List Loc} {cells slots : Nat} {Q : State → Prop}
variable {cc : ByteArray} {pc : Nat} {ls : Array Slot} {rest : List Value} {D : sm_G} {ws : va_W} {a : Nat} {H0 : Heap} {A : Nat → Prop} {rt : Option FieldType} {own : String} {nL : Nat}
theorem sm_retH {w0 w1 : va_W} {k : Int32} {B : Int32 → va_W → Prop} (hC : sm_Cx p s m args meth c cc nL (some .int) own) (hP : va_P D.1 sm_cl w1 H) (hD : va_D (sm_ad w0) w1) (hS : va_S (sm_ad w0) s.heap H locs) (hB : B k w1) {XC : String → State → State → Prop} (hc : cells ≤ 1) (hs : slots ≤ 6) (hdg : decode cc pc = .ok (.ireturn, 1)) : W p l e R s m args below meth c H locs cells slots (vx_MQ below (sm_Qh D w0 B) XC args s 1 6 (sm_ad w0)) (F0 m pc ls [.int k]) := by
  obtain ⟨hx, hb, hml, hr, hown, hlk, hts⟩ := hC
  refine W.widen (k := 1) (n := 6) hc hs (vx_ret ?_)
  exact W.zret hx hb hr rfl (fun t ht hW => ⟨k, rfl, sm_ch hP hD hS hB ht⟩) hS.2.2 hdg hlk
variable {y : MethodName} {bytes : ByteArray} {maxL fr lo n index : Nat} {hh : List (Nat × Nat × Nat × Nat)} {As st0 : List Value} {B : Int32 → va_W → Prop}
theorem sm_cH (hC : sm_Cx p s m args meth c cc nL rt own) (hK : sm_K D s) (hP : va_P D.1 sm_cl ws H) (hD : va_D A ws) (hS : va_S A s.heap H locs) (hZ : sm_Z A s s.heap) (hM : sm_MH l y bytes maxL hh fr lo As D ws B) (hy : sm_yH y bytes maxL hh n) (m1 : Cond.methodLink own index y ∈ wsL_law) (hR : fr + 1 ≤ R.frames ∧ 8 + (maxL + 11) + lo ≤ R.locals)
    (hn : As.length = n) (hsz : ls.size = nL) (hst : st0 = As.reverse ++ rest) (hcat : (rest.map fun v => v.category).sum ≤ 8) (hdg : decode cc pc = .ok (.invokestatic index, 3)) (hf : cells + 1 ≤ R.cells ∧ slots + 6 ≤ R.slots)
    (kk : ∀ (k : Int32) (w1 : va_W) (H1 : Heap) (locs1 : List Loc), B k w1 → va_P D.1 sm_cl w1 H1 → va_D A w1 → va_S A s.heap H1 locs1 → W p l e R s m args below meth c H1 locs1 (cells + 1) (slots + 6) Q (F0 m (pc + 3) ls (.int k :: rest))) : W p l e R s m args below meth c H locs cells slots Q (F0 m pc ls st0) := by
  obtain ⟨hx, hb, hml, -, hown, -, hts⟩ := hC
  obtain ⟨y1, y2, y3, y4⟩ := hy
  have cw : vx_CSW R s args own index y bytes maxL (some .int) hh (.codeWith y bytes maxL (some .int) hh :: wsL_law) ({ frames := fr, cells := 1, slots := 6, locals := lo } : Room) 1 6 n := by
    refine ⟨⟨rfl, rfl, hR.1, hR.2, fun w hw => ?_, List.mem_cons_self⟩, hts _ y3, hts _ y2, ⟨y4.1, y4.2.1⟩, fun sig h => ?_, hts _ m1, hts _ y1⟩
    · rcases List.mem_cons.mp hw with h | h
      · rw [h]; exact sm_pay hts _ y3
      · exact sm_pay hts _ h
    · have h2 := y4.2.2
      rw [h] at h2
      exact (Option.some.inj h2).symm
  have hr : vx_Run p l e R s m args below meth c H locs cells slots 1 6 (F0 m pc ls st0) rest (sm_Qh D ws B As.toArray) (fun _ _ _ => False) (sm_ad ws) := vx_runSX (own := own) (y := y) (As := As) (rest := rest) ⟨hx, hb, hml, hown, hts⟩ hM cw ⟨sm_blX, fun U hU hW => ⟨rfl, ⟨by rw [hU]; exact hP, hK.warm hW⟩, sm_self hD, sm_Zn hZ hD hS hU hW⟩⟩ (g := F0 m pc ls st0) rfl hn hsz hst (lv_room hcat) hdg hf
  intro T hT X
  rcases hr T hT X with ⟨v, st₀, t, T', L, h0, X', hL, e1, e2, ⟨k, hv, ⟨w1, hB, hP1, hD1⟩, hF⟩, st⟩ | ⟨q, st₀, t, T', L, E, ce, h0, X', hL, e1, e2, hfa, hce, hcv, hcl, st⟩
  · cases hv
    obtain ⟨-, -, k3⟩ := vx_keep (A0 := A) h0 e1 hS (fun q _ h => sm_adA hD q h) (sm_adA hD) hL hF
    obtain ⟨t2, a1, b1⟩ := kk k w1 T'.heap (locs ++ L) hB (by rw [e1]; exact hP1) (sm_keepD hD hD1) k3 T' rfl X'
    exact ⟨t2, st t2 a1, b1⟩
  · exact hfa.elim
end SMH
