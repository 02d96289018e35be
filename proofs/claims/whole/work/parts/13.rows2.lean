/-! more rows: arrays whose numbers have another meaning, calls that answer -/
theorem sm_bp {b : Bool} (h : 0 < sm_b b) : b = true := by cases b; exact absurd h (by decide); rfl
theorem sm_bnp {b : Bool} (h : ¬ 0 < sm_b b) : b = false := by cases b; rfl; exact absurd (by decide) h
theorem sm_bnl {b : Bool} (h : sm_b b ≤ 0) : b = false := by cases b; rfl; exact absurd h (by decide)
theorem sm_bnle {b : Bool} (h : ¬ sm_b b ≤ 0) : b = true := by cases b; exact absurd (by decide) h; rfl
theorem sm_min (a b : Nat) (ha : a < 2 ^ 31) (hb : b < 2 ^ 31) : (if nI b < nI a then nI b else nI a) = nI (min a b) := by
  by_cases h : b < a
  · rw [if_pos ((nI_ltI hb ha).mpr h), Nat.min_eq_right (by omega)]
  · rw [if_neg (fun z => h ((nI_ltI hb ha).mp z)), Nat.min_eq_left (by omega)]
theorem sm_hcc (k : Int32) : vp_nar .char (sm_hc k) = sm_hc k := by
  unfold sm_hc
  split
  · decide
  · split
    · decide
    · split <;> decide
theorem sm_upG {α : Type} (g : α → Int32) (f : Nat → α) (j : Nat) (y : α) : va_up (fun k => g (f k)) j (g y) = fun k => g (va_up f j y k) := by
  funext k
  unfold va_up
  split <;> rfl
section SMS
variable {p : Program} {l : Launch} {e : Env} {R : Room} {s : State} {m : MethodId} {args : Array Value} {below : List Frame} {meth : Method} {c : Code} {H : Heap} {locs : List Loc} {cells slots : Nat} {Q : State → Prop}
variable {cc : ByteArray} {pc : Nat} {ls : Array Slot} {rest : List Value} {D : sm_G} {ws : va_W} {a : Nat} {H0 : Heap} {A : Nat → Prop}
theorem sm_istG {α : Type} (hx : p.tables.exec = Jvm.exec) (hb : c.code = cc) (hK : sm_K D s) (hP : va_P D.1 sm_cl ws H) (hD : va_D A ws) (hS : va_S A H0 H locs) (q0 : Nat) {n : Nat} {g : α → Int32} {f : Nat → α} (ha : ws[q0]? = some (a, .inl (D.2 0, n, .inl (fun k => g (f k))))) {i x : Int32} (y : α) (hy : x = g y) (j : Nat) (hij : i = nI j) (hj : j < n) (hn : n < 2 ^ 31) (hdg : decode cc pc = .ok (.iastore, 1))
    (kk : ∀ (H1 : Heap) (locs1 : List Loc), va_P D.1 sm_cl (ws.set q0 (a, .inl (D.2 0, n, .inl (fun k => g (va_up f j y k))))) H1 → va_D A (ws.set q0 (a, .inl (D.2 0, n, .inl (fun k => g (va_up f j y k))))) → va_S A H0 H1 locs1 → W p l e R s m args below meth c H1 locs1 cells slots Q (F0 m (pc + 1) ls rest)) : W p l e R s m args below meth c H locs cells slots Q (F0 m pc ls (.int x :: .int i :: .ref a :: rest)) := by
  subst hy
  refine sm_ist hx hb hK hP hD hS q0 ha j hij hj hn hdg (fun H1 locs1 h1 h2 h3 => ?_)
  rw [sm_upG] at h1 h2
  exact kk H1 locs1 h1 h2 h3
theorem sm_cstG {α : Type} (hx : p.tables.exec = Jvm.exec) (hb : c.code = cc) (hK : sm_K D s) (hP : va_P D.1 sm_cl ws H) (hD : va_D A ws) (hS : va_S A H0 H locs) (q0 : Nat) {n : Nat} {g : α → Int32} {f : Nat → α} (ha : ws[q0]? = some (a, .inl (D.2 2, n, .inl (fun k => g (f k))))) {i x : Int32} (y : α) (hy : x = g y) (j : Nat) (hij : i = nI j) (hj : j < n) (hn : n < 2 ^ 31) (hc : vp_nar .char (g y) = g y) (hdg : decode cc pc = .ok (.castore, 1))
    (kk : ∀ (H1 : Heap) (locs1 : List Loc), va_P D.1 sm_cl (ws.set q0 (a, .inl (D.2 2, n, .inl (fun k => g (va_up f j y k))))) H1 → va_D A (ws.set q0 (a, .inl (D.2 2, n, .inl (fun k => g (va_up f j y k))))) → va_S A H0 H1 locs1 → W p l e R s m args below meth c H1 locs1 cells slots Q (F0 m (pc + 1) ls rest)) : W p l e R s m args below meth c H locs cells slots Q (F0 m pc ls (.int x :: .int i :: .ref a :: rest)) := by
  subst hy
  refine sm_cst hx hb hK hP hD hS q0 ha j hij hj hn hc hdg (fun H1 locs1 h1 h2 h3 => ?_)
  rw [sm_upG] at h1 h2
  exact kk H1 locs1 h1 h2 h3
variable {y : MethodName} {bytes : ByteArray} {maxL fr lo n index nL ci N : Nat} {ret rt : Option FieldType} {own C : String} {T : u_T} {b : Addr} {As st0 fs : List Value} {vv : Value} {B : va_W → Prop} {r : String ⊕ Option Value}
theorem sm_cVPr (hC : sm_Cx p s m args meth c cc nL rt own) (hK : sm_K D s) (hP : va_P D.1 sm_cl ws H) (hM : sm_MP l y bytes maxL ret fr lo (.ref b :: As) D ws (some vv)) (hy : sm_yV y bytes maxL ret n) (m1 : Cond.methodLink own index y ∈ wsL_law) (hR : fr + 1 ≤ R.frames ∧ 8 + (maxL + 11) + lo ≤ R.locals)
    (q0 : Nat) (he : ws[q0]? = some (b, .inr (ci, fs))) (hc : sm_cl[ci]? = some (y.cls, T, N)) (hn : As.length = n) (hsz : ls.size = nL) (hst : st0 = As.reverse ++ .ref b :: rest) (hcat : (rest.map fun v => v.category).sum ≤ 8) (hdg : decode cc pc = .ok (.invokevirtual index, 3)) (hf : cells ≤ R.cells ∧ slots ≤ R.slots)
    (kk : W p l e R s m args below meth c H locs cells slots Q (F0 m (pc + 3) ls (vv :: rest))) : W p l e R s m args below meth c H locs cells slots Q (F0 m pc ls st0) := sm_cVP hC hK hP hM hy m1 hR q0 he hc hn hsz hst hcat hdg hf kk
theorem sm_cVCr (hC : sm_Cx p s m args meth c cc nL rt own) (hK : sm_K D s) (hP : va_P D.1 sm_cl ws H) (hD : va_D A ws) (hS : va_S A s.heap H locs) (hZ : sm_Z A s s.heap) (hM : sm_MC l y bytes maxL ret fr lo (.ref b :: As) D ws B (some vv)) (hy : sm_yV y bytes maxL ret n) (m1 : Cond.methodLink own index y ∈ wsL_law) (hR : fr + 1 ≤ R.frames ∧ 8 + (maxL + 11) + lo ≤ R.locals)
    (q0 : Nat) (he : ws[q0]? = some (b, .inr (ci, fs))) (hc : sm_cl[ci]? = some (y.cls, T, N)) (hn : As.length = n) (hsz : ls.size = nL) (hst : st0 = As.reverse ++ .ref b :: rest) (hcat : (rest.map fun v => v.category).sum ≤ 8) (hdg : decode cc pc = .ok (.invokevirtual index, 3)) (hf : cells ≤ R.cells ∧ slots ≤ R.slots)
    (kk : ∀ (w1 : va_W) (H1 : Heap) (locs1 : List Loc), B w1 → va_P D.1 sm_cl w1 H1 → va_D A w1 → va_S A s.heap H1 locs1 → W p l e R s m args below meth c H1 locs1 cells slots Q (F0 m (pc + 3) ls (vv :: rest))) : W p l e R s m args below meth c H locs cells slots Q (F0 m pc ls st0) := sm_cVC hC hK hP hD hS hZ hM hy m1 hR q0 he hc hn hsz hst hcat hdg hf kk
theorem sm_cSPr (hC : sm_Cx p s m args meth c cc nL rt own) (hK : sm_K D s) (hP : va_P D.1 sm_cl ws H) (hM : sm_MP l y bytes maxL ret fr lo As D ws (some vv)) (hy : sm_yS y bytes maxL ret n) (m1 : Cond.methodLink own index y ∈ wsL_law) (hR : fr + 1 ≤ R.frames ∧ 8 + (maxL + 11) + lo ≤ R.locals)
    (hn : As.length = n) (hsz : ls.size = nL) (hst : st0 = As.reverse ++ rest) (hcat : (rest.map fun v => v.category).sum ≤ 8) (hdg : decode cc pc = .ok (.invokestatic index, 3)) (hf : cells ≤ R.cells ∧ slots ≤ R.slots)
    (kk : W p l e R s m args below meth c H locs cells slots Q (F0 m (pc + 3) ls (vv :: rest))) : W p l e R s m args below meth c H locs cells slots Q (F0 m pc ls st0) := sm_cSP hC hK hP hM hy m1 hR hn hsz hst hcat hdg hf kk
theorem sm_cNPr {host : String} (hC : sm_Cx p s m args meth c cc nL rt own) (hK : sm_K D s) (hP : va_P D.1 sm_cl ws H) (hM : sm_MP l y bytes maxL ret fr lo As D ws (some vv)) (hy : sm_yS y bytes maxL ret n) (m1 : (own, index, y, host) ∈ sm_nm) (hR : fr + 1 ≤ R.frames ∧ 8 + (maxL + 11) + lo ≤ R.locals)
    (hn : As.length = n) (hsz : ls.size = nL) (hst : st0 = As.reverse ++ rest) (hcat : (rest.map fun v => v.category).sum ≤ 8) (hdg : decode cc pc = .ok (.invokestatic index, 3)) (hf : cells ≤ R.cells ∧ slots ≤ R.slots)
    (kk : W p l e R s m args below meth c H locs cells slots Q (F0 m (pc + 3) ls (vv :: rest))) : W p l e R s m args below meth c H locs cells slots Q (F0 m pc ls st0) := sm_cNP hC hK hP hM hy m1 hR hn hsz hst hcat hdg hf kk
end SMS
theorem sm_lc0 {x y : Int64} (h : lg_cmp x y = 0) : x = y := by
  unfold lg_cmp at h
  split at h
  · exact absurd h (by decide)
  · split at h
    · assumption
    · exact absurd h (by decide)
theorem sm_lc1 {x y : Int64} (h : ¬ lg_cmp x y = 0) : ¬ x = y := by
  intro z
  apply h
  subst z
  unfold lg_cmp
  simp
