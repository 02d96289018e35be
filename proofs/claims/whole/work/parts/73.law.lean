/-! the law's own rows: the invariant of its loop, arguments out of the script, the end of a case -/
def sw_A (s : State) : Nat → Prop := fun q => s.heap.size ≤ q
def sw_X (p : Program) (l : Launch) (s : State) (m : MethodId) (meth : Method) (c : Code) (b L : Nat) (xs : Nat → Int32) (D : sm_G) : Prop :=
  sm_Cx p s m #[Value.ref b] meth c cL_law 9 ret RL ∧ sm_K D s ∧ sm_Z (sw_A s) s s.heap ∧ l.stackTraces = false ∧ va_X b L xs s s.heap ∧ b < s.heap.size ∧ L ≤ 2048
abbrev sw_o (D : sm_G) (oL oD : Nat) (gL : Nat → Int64) (gD : Nat → UInt64) (wr : va_W) : va_W := (oL, .inl (D.2 3, 1, .inr (.inl gL))) :: (oD, .inl (D.2 4, 1, .inr (.inr (.inr (.inl gD))))) :: wr
def sw_I (s : State) (D : sm_G) (b : Nat) (ad am : Nat → Nat) (oL oD : Nat) (xi : Int32) (ls : Array Slot) (H : Heap) (locs : List Loc) : Prop :=
  ∃ (P : sm_Sp) (S : sm_Rw) (T : sm_Tg) (L M : sm_Lg) (C : sm_Pt) (cp : sm_Cp) (ph : Int32) (fo ne no rc : Nat) (U : sm_Tg) (nm : Nat → Bool) (Z : sm_Qt) (cq : sm_Cp) (th : Int32) (n2 rd np pw ev od : Nat) (gL : Nat → Int64) (gD : Nat → UInt64),
    sm_Rel P S T L M C ph fo ne no U nm Z n2 rd np pw ev od ∧ va_P D.1 sm_cl (sm_w6 D ad P S T L M C cp ph fo ne no rc (sw_o D oL oD gL gD (sm_w7 D am P S U L nm Z cq ph th n2 fo rd np pw ev od rc []))) H ∧ va_D (sw_A s) (sm_w6 D ad P S T L M C cp ph fo ne no rc (sw_o D oL oD gL gD (sm_w7 D am P S U L nm Z cq ph th n2 fo rd np pw ev od rc []))) ∧ va_S (sw_A s) s.heap H locs ∧ lv_has ls 9 [(0, .ref b), (1, .ref (ad 0)), (2, .ref (am 0)), (3, .ref oL), (4, .ref oD), (5, .int xi)]
theorem sw_Ils {s : State} {D : sm_G} {b : Nat} {ad am : Nat → Nat} {oL oD : Nat} {xi xj : Int32} {ls ls2 : Array Slot} {H : Heap} {locs : List Loc} (h : sw_I s D b ad am oL oD xi ls H locs) (h2 : lv_has ls2 9 [(0, .ref b), (1, .ref (ad 0)), (2, .ref (am 0)), (3, .ref oL), (4, .ref oD), (5, .int xj)]) : sw_I s D b ad am oL oD xj ls2 H locs := by
  obtain ⟨P, S, T, L, M, C, cp, ph, fo, ne, no, rc, U, nm, Z, cq, th, n2, rd, np, pw, ev, od, gL, gD, h1, h3, h4, h5, -⟩ := h
  exact ⟨P, S, T, L, M, C, cp, ph, fo, ne, no, rc, U, nm, Z, cq, th, n2, rd, np, pw, ev, od, gL, gD, h1, h3, h4, h5, h2⟩
theorem sw_Il {s : State} {D : sm_G} {b : Nat} {ad am : Nat → Nat} {oL oD : Nat} {xi : Int32} {ls : Array Slot} {H : Heap} {locs : List Loc} (h : sw_I s D b ad am oL oD xi ls H locs) : va_S (sw_A s) s.heap H locs ∧ lv_has ls 9 [(0, .ref b), (1, .ref (ad 0)), (2, .ref (am 0)), (3, .ref oL), (4, .ref oD), (5, .int xi)] := by
  obtain ⟨P, S, T, L, M, C, cp, ph, fo, ne, no, rc, U, nm, Z, cq, th, n2, rd, np, pw, ev, od, gL, gD, -, -, -, h5, h6⟩ := h
  exact ⟨h5, h6⟩
-- the worlds turned about
section
variable {D : sm_G} {ad am : Nat → Nat} {P P2 : sm_Sp} {S S2 : sm_Rw} {T U : sm_Tg} {L M L2 : sm_Lg} {C : sm_Pt} {cp cq : sm_Cp} {ph ph2 : Int32} {fo ne no rc : Nat} {nm : Nat → Bool} {Z : sm_Qt} {th : Int32} {n2 fo2 rd np pw ev od rc2 : Nat} {oL oD : Nat} {gL : Nat → Int64} {gD : Nat → UInt64} {H : Heap} {A : Nat → Prop}
theorem sw_tP (h : va_P D.1 sm_cl (sm_w6 D ad P S T L M C cp ph fo ne no rc (sw_o D oL oD gL gD (sm_w7 D am P2 S2 U L2 nm Z cq ph2 th n2 fo2 rd np pw ev od rc2 []))) H) : va_P D.1 sm_cl (sm_w7 D am P2 S2 U L2 nm Z cq ph2 th n2 fo2 rd np pw ev od rc2 (sm_w6 D ad P S T L M C cp ph fo ne no rc (sw_o D oL oD gL gD []))) H :=
  sm_swP (a := sm_w6 D ad P S T L M C cp ph fo ne no rc (sw_o D oL oD gL gD [])) (b := sm_w7 D am P2 S2 U L2 nm Z cq ph2 th n2 fo2 rd np pw ev od rc2 []) h
theorem sw_tD (h : va_D A (sm_w6 D ad P S T L M C cp ph fo ne no rc (sw_o D oL oD gL gD (sm_w7 D am P2 S2 U L2 nm Z cq ph2 th n2 fo2 rd np pw ev od rc2 [])))) : va_D A (sm_w7 D am P2 S2 U L2 nm Z cq ph2 th n2 fo2 rd np pw ev od rc2 (sm_w6 D ad P S T L M C cp ph fo ne no rc (sw_o D oL oD gL gD []))) :=
  sm_swD (a := sm_w6 D ad P S T L M C cp ph fo ne no rc (sw_o D oL oD gL gD [])) (b := sm_w7 D am P2 S2 U L2 nm Z cq ph2 th n2 fo2 rd np pw ev od rc2 []) h
theorem sw_bP (h : va_P D.1 sm_cl (sm_w7 D am P2 S2 U L2 nm Z cq ph2 th n2 fo2 rd np pw ev od rc2 (sm_w6 D ad P S T L M C cp ph fo ne no rc (sw_o D oL oD gL gD []))) H) : va_P D.1 sm_cl (sm_w6 D ad P S T L M C cp ph fo ne no rc (sw_o D oL oD gL gD (sm_w7 D am P2 S2 U L2 nm Z cq ph2 th n2 fo2 rd np pw ev od rc2 []))) H :=
  sm_swP (b := sm_w6 D ad P S T L M C cp ph fo ne no rc (sw_o D oL oD gL gD [])) (a := sm_w7 D am P2 S2 U L2 nm Z cq ph2 th n2 fo2 rd np pw ev od rc2 []) h
theorem sw_bD (h : va_D A (sm_w7 D am P2 S2 U L2 nm Z cq ph2 th n2 fo2 rd np pw ev od rc2 (sm_w6 D ad P S T L M C cp ph fo ne no rc (sw_o D oL oD gL gD [])))) : va_D A (sm_w6 D ad P S T L M C cp ph fo ne no rc (sw_o D oL oD gL gD (sm_w7 D am P2 S2 U L2 nm Z cq ph2 th n2 fo2 rd np pw ev od rc2 []))) :=
  sm_swD (b := sm_w6 D ad P S T L M C cp ph fo ne no rc (sw_o D oL oD gL gD [])) (a := sm_w7 D am P2 S2 U L2 nm Z cq ph2 th n2 fo2 rd np pw ev od rc2 []) h
theorem sw_mk {s : State} {b : Nat} {xi : Int32} {ls : Array Slot} {locs : List Loc} (hR : sm_Rel P S T L M C ph fo ne no U nm Z n2 rd np pw ev od) (hP : va_P D.1 sm_cl (sm_w7 D am P2 S2 U L2 nm Z cq ph2 th n2 fo2 rd np pw ev od rc2 (sm_w6 D ad P S T L M C cp ph fo ne no rc (sw_o D oL oD gL gD []))) H) (hD : va_D (sw_A s) (sm_w7 D am P2 S2 U L2 nm Z cq ph2 th n2 fo2 rd np pw ev od rc2 (sm_w6 D ad P S T L M C cp ph fo ne no rc (sw_o D oL oD gL gD [])))) (hS : va_S (sw_A s) s.heap H locs) (hl : lv_has ls 9 [(0, .ref b), (1, .ref (ad 0)), (2, .ref (am 0)), (3, .ref oL), (4, .ref oD), (5, .int xi)])
    (eP : P2 = P) (eS : S2 = S) (eL : L2 = L) (eph : ph2 = ph) (efo : fo2 = fo) (erc : rc2 = rc) : sw_I s D b ad am oL oD xi ls H locs := by
  subst eP; subst eS; subst eL; subst eph; subst efo; subst erc
  exact ⟨P2, S2, T, L2, M, C, cp, ph2, fo2, ne, no, rc2, U, nm, Z, cq, th, n2, rd, np, pw, ev, od, gL, gD, hR, sw_bP hP, sw_bD hD, hS, hl⟩
end
-- what a helper of the law came to: the class's cells, and the array's
section
variable {q0 o : Nat} {B : va_W → Prop} {hs : List String} {F : Value → va_E → va_E → Prop} {k K : Int32} {w1 : va_W} {E : String} {v : Value} {D : sm_G}
theorem sw_ha (h : sm_Bh q0 o B (.inr (some v)) hs F k w1) : sm_Bk q0 o B 0 v F k w1 := ⟨(sm_ha h).1, Or.inl ⟨rfl, (sm_ha h).2⟩⟩
theorem sw_hx (hn : ∀ i, hs[i]? = some E → i = 0) (h : sm_Bh q0 o B (.inl E) hs F k w1) : sm_Bk q0 o B 1 v F k w1 := ⟨(sm_hx hn h).1, Or.inr ⟨by decide, (sm_hx hn h).2⟩⟩
theorem sw_n1 {E1 : String} : ∀ i, [E1][i]? = some E1 → i = 0 := fun i h => by
  cases i with
  | zero => rfl
  | succ i => cases h
theorem sw_n2 {E1 E2 : String} (hd : ¬ E1 = E2) : ∀ i, [E1, E2][i]? = some E1 → i = 0 := fun i h => by
  match i, h with
  | 0, _ => rfl
  | 1, h => exact absurd (Option.some.inj (show some E2 = some E1 from h)).symm hd
  | i + 2, h => cases h
theorem sw_n3 {E1 E2 E3 : String} (hd : ¬ E1 = E2) (he : ¬ E1 = E3) : ∀ i, [E1, E2, E3][i]? = some E1 → i = 0 := fun i h => by
  match i, h with
  | 0, _ => rfl
  | 1, h => exact absurd (Option.some.inj (show some E2 = some E1 from h)).symm hd
  | 2, h => exact absurd (Option.some.inj (show some E3 = some E1 from h)).symm he
  | i + 3, h => cases h
theorem sw_bI {f : sm_Cp → (Nat → Int64) → va_W} {g0 : Nat → Int64} {x : Int32} (hs : ∀ a g g', (f a g).set q0 (o, .inl (D.2 3, 1, .inr (.inl g'))) = f a g') (hB : ∀ w, B w → ∃ a, w = f a g0) (h : sm_Bk q0 o B K (.int x) (sm_FI D) k w1) : k = K ∧ ∃ a g', w1 = f a g' ∧ (K = 0 → g' 0 = x.toInt64) := by
  obtain ⟨h1, ⟨h2, e0, e1, w0, b, c1, d1, e⟩ | ⟨h2, b⟩⟩ := h
  · obtain ⟨a, rfl⟩ := hB _ b
    obtain ⟨x1, g, hv, -, rfl⟩ := d1
    cases hv
    exact ⟨h1, a, _, e.trans (hs a g0 _), fun _ => sm_upT _ _ _⟩
  · obtain ⟨a, ea⟩ := hB _ b
    exact ⟨h1, a, g0, ea, fun z => absurd z h2⟩
theorem sw_sbi {x y : Bool} (h : sm_b x = sm_b y) : x = y := by
  cases x <;> cases y
  · rfl
  · exact absurd h (by decide)
  · exact absurd h (by decide)
  · rfl
theorem sw_bZ {f : sm_Cp → (Nat → Int64) → va_W} {g0 : Nat → Int64} {x : Bool} (hs : ∀ a g g', (f a g).set q0 (o, .inl (D.2 3, 1, .inr (.inl g'))) = f a g') (hB : ∀ w, B w → ∃ a, w = f a g0) (h : sm_Bk q0 o B K (.int (sm_b x)) (sm_FZ D) k w1) : k = K ∧ ∃ a g', w1 = f a g' ∧ (K = 0 → g' 0 = if x = true then 1 else 0) := by
  obtain ⟨h1, ⟨h2, e0, e1, w0, b, c1, d1, e⟩ | ⟨h2, b⟩⟩ := h
  · obtain ⟨a, rfl⟩ := hB _ b
    obtain ⟨x1, g, hv, -, rfl⟩ := d1
    obtain rfl := sw_sbi (Value.int.inj hv)
    exact ⟨h1, a, _, e.trans (hs a g0 _), fun _ => sm_upT _ _ _⟩
  · obtain ⟨a, ea⟩ := hB _ b
    exact ⟨h1, a, g0, ea, fun z => absurd z h2⟩
theorem sw_bL {f : sm_Cp → (Nat → Int64) → va_W} {g0 : Nat → Int64} {x : Int64} (hs : ∀ a g g', (f a g).set q0 (o, .inl (D.2 3, 1, .inr (.inl g'))) = f a g') (hB : ∀ w, B w → ∃ a, w = f a g0) (h : sm_Bk q0 o B K (.long x) (sm_FL D) k w1) : k = K ∧ ∃ a g', w1 = f a g' ∧ (K = 0 → g' 0 = x) := by
  obtain ⟨h1, ⟨h2, e0, e1, w0, b, c1, d1, e⟩ | ⟨h2, b⟩⟩ := h
  · obtain ⟨a, rfl⟩ := hB _ b
    obtain ⟨x1, g, hv, -, rfl⟩ := d1
    cases hv
    exact ⟨h1, a, _, e.trans (hs a g0 _), fun _ => sm_upT _ _ _⟩
  · obtain ⟨a, ea⟩ := hB _ b
    exact ⟨h1, a, g0, ea, fun z => absurd z h2⟩
theorem sw_bF {f : sm_Cp → (Nat → UInt64) → va_W} {g0 : Nat → UInt64} {x : UInt32} (hs : ∀ a g g', (f a g).set q0 (o, .inl (D.2 4, 1, .inr (.inr (.inr (.inl g'))))) = f a g') (hB : ∀ w, B w → ∃ a, w = f a g0) (h : sm_Bk q0 o B K (.float x) (sm_FF D) k w1) : k = K ∧ ∃ a g', w1 = f a g' ∧ (K = 0 → g' 0 = FP.f2d x) := by
  obtain ⟨h1, ⟨h2, e0, e1, w0, b, c1, d1, e⟩ | ⟨h2, b⟩⟩ := h
  · obtain ⟨a, rfl⟩ := hB _ b
    obtain ⟨x1, g, hv, -, rfl⟩ := d1
    cases hv
    exact ⟨h1, a, _, e.trans (hs a g0 _), fun _ => sm_upT _ _ _⟩
  · obtain ⟨a, ea⟩ := hB _ b
    exact ⟨h1, a, g0, ea, fun z => absurd z h2⟩
theorem sw_bD2 {f : sm_Cp → (Nat → UInt64) → va_W} {g0 : Nat → UInt64} {x : UInt64} (hs : ∀ a g g', (f a g).set q0 (o, .inl (D.2 4, 1, .inr (.inr (.inr (.inl g'))))) = f a g') (hB : ∀ w, B w → ∃ a, w = f a g0) (h : sm_Bk q0 o B K (.double x) (sm_FD D) k w1) : k = K ∧ ∃ a g', w1 = f a g' ∧ (K = 0 → g' 0 = x) := by
  obtain ⟨h1, ⟨h2, e0, e1, w0, b, c1, d1, e⟩ | ⟨h2, b⟩⟩ := h
  · obtain ⟨a, rfl⟩ := hB _ b
    obtain ⟨x1, g, hv, -, rfl⟩ := d1
    cases hv
    exact ⟨h1, a, _, e.trans (hs a g0 _), fun _ => sm_upT _ _ _⟩
  · obtain ⟨a, ea⟩ := hB _ b
    exact ⟨h1, a, g0, ea, fun z => absurd z h2⟩
end
-- rows of the law's code
theorem sw_lc (x : Int64) : lg_cmp x x = 0 := by
  unfold lg_cmp
  rw [if_neg (fun h => absurd (Int64.lt_iff_toInt_lt.mp h) (Int.lt_irrefl _)), if_pos rfl]
section
variable {p : Program} {l : Launch} {e : Env} {s : State} {m : MethodId} {below : List Frame} {meth : Method} {c : Code} {H : Heap} {locs : List Loc} {cells slots : Nat} {Q : State → Prop} {pc : Nat} {ls : Array Slot} {rest : List Value} {D : sm_G} {ws : va_W} {b L : Nat} {xs : Nat → Int32} {args : Array Value}
theorem sw_jI {j : Nat} {jI : Int} (hj : Int32.ofInt jI = nI j) (i : Nat) : nI i + Int32.ofInt jI = nI (i + j) := by rw [hj, nI_add]
/-- a number of the script on the stack -/
theorem sw_arg (hX : sw_X p l s m meth c b L xs D) (hS : va_S (sw_A s) s.heap H locs) {i j : Nat} {jI : Int} (hij : i + j < L) (hj : Int32.ofInt jI = nI j) {lv : List (Nat × Value)} (hl : lv_has ls 9 lv) (p0 : Nat) (h0 : lv[p0]? = some (0, .ref b)) (p5 : Nat) (h5 : lv[p5]? = some (5, .int (nI i)))
    (d0 : decode cL_law pc = .ok (.aload_n 0, 1)) (d1 : decode cL_law (pc + 1) = .ok (.iload 5, 2)) (d3 : decode cL_law (pc + 3) = .ok (.iconst jI, 1)) (d4 : decode cL_law (pc + 4) = .ok (.iadd, 1)) (d5 : decode cL_law (pc + 5) = .ok (.iaload, 1))
    (kk : W p l e room_1 s m args below meth c H locs cells slots Q (F0 m (pc + 6) ls (.int (xs (i + j)) :: rest))) : W p l e room_1 s m args below meth c H locs cells slots Q (F0 m pc ls rest) := by
  obtain ⟨hC, hK, hZ, hlt, hX, hbl, hL⟩ := hX
  obtain ⟨hx, hb, -⟩ := hC
  refine lv_aload_n hx hb d0 rfl (lv_at hl p0 h0) ?_
  refine lv_iload hx hb d1 (lv_at hl p5 h5) ?_
  refine lv_iconst (v := Int32.ofInt jI) hx hb d3 rfl ?_
  refine lv_iadd hx hb d4 ?_
  rw [sw_jI hj]
  refine va_sld hx hb hX hbl (Nat.not_le.mpr hbl) hS (vp_in_nI hij (by omega)) d5 ?_
  rw [nI_clamp (by omega)]
  exact kk
/-- is it not 0 -/
theorem sw_bool {x : Int32} (hx : p.tables.exec = Jvm.exec) (hb : c.code = cL_law) (d0 : decode cL_law pc = .ok (.ifCond .eq 7, 3)) (d3 : decode cL_law (pc + 3) = .ok (.iconst 1, 1)) (d4 : decode cL_law (pc + 4) = .ok (.goto 4, 3)) (d7 : decode cL_law (pc + 7) = .ok (.iconst 0, 1))
    (kk : W p l e room_1 s m args below meth c H locs cells slots Q (F0 m (pc + 8) ls (.int (sm_b (decide (¬ x = 0))) :: rest))) : W p l e room_1 s m args below meth c H locs cells slots Q (F0 m pc ls (.int x :: rest)) := by
  refine lv_if_eq (tgt := pc + 7) hx hb d0 (by omega) (fun h => ?_) (fun h => ?_)
  · refine lv_iconst (v := 0) hx hb d7 (by decide) ?_
    rw [decide_eq_false (show ¬ ¬ x = 0 from fun z => z h)] at kk
    exact kk
  · refine lv_iconst (v := 1) hx hb d3 (by decide) ?_
    refine lv_goto (tgt := pc + 8) hx hb d4 (by omega) ?_
    rw [decide_eq_true (show ¬ x = 0 from h)] at kk
    exact kk
theorem sw_tI (hC : sm_Cx p s m args meth c cL_law 9 ret RL) (hK : sm_K D s) (hP : va_P D.1 sm_cl ws H) {a6 a7 oL oD : Nat} {xi K Kr : Int32} {fs : List Value} (hM : sm_MP l yX7_thrown cX7_thrown 1 (some .int) 0 0 [.ref a7] D ws (some (.int Kr))) (h0 : ws[0]? = some (a7, .inr (7, fs))) (hKr : Kr = K) (q3 : Nat) {g : Nat → Int64} (h3 : ws[q3]? = some (oL, .inl (D.2 3, 1, .inr (.inl g)))) {y x : Int32} (hg : K = 0 → g 0 = x.toInt64) (hxy : K = 0 → y = x) (hl : lv_has ls 9 [(6, .int K), (0, .ref b), (1, .ref a6), (2, .ref a7), (3, .ref oL), (4, .ref oD), (5, .int xi)]) (hf : cells ≤ room_1.cells ∧ slots ≤ room_1.slots) {off : Int} (ht : ((pc + 30 : Nat) : Int) + off = ((1616 : Nat) : Int))
    (d0 : decode cL_law pc = .ok (.istore 7, 2)) (d2 : decode cL_law (pc + 2) = .ok (.aload_n 2, 1)) (d3 : decode cL_law (pc + 3) = .ok (.invokevirtual 108, 3)) (d6 : decode cL_law (pc + 6) = .ok (.iload 6, 2)) (d8 : decode cL_law (pc + 8) = .ok (.if_icmp .eq 5, 3)) (d13 : decode cL_law (pc + 13) = .ok (.iload 6, 2)) (d15 : decode cL_law (pc + 15) = .ok (.ifCond .ne 15, 3)) (d18 : decode cL_law (pc + 18) = .ok (.aload_n 3, 1)) (d19 : decode cL_law (pc + 19) = .ok (.iconst 0, 1)) (d20 : decode cL_law (pc + 20) = .ok (.laload, 1)) (d21 : decode cL_law (pc + 21) = .ok (.iload 7, 2)) (d23 : decode cL_law (pc + 23) = .ok (.i2l, 1)) (d24 : decode cL_law (pc + 24) = .ok (.lcmp, 1)) (d25 : decode cL_law (pc + 25) = .ok (.ifCond .eq 5, 3)) (d30 : decode cL_law (pc + 30) = .ok (.goto off, 3))
    (kk : ∀ ls : Array Slot, lv_has ls 9 [(0, .ref b), (1, .ref a6), (2, .ref a7), (3, .ref oL), (4, .ref oD), (5, .int xi)] → W p l e room_1 s m args below meth c H locs cells slots Q (F0 m 1616 ls [])) : W p l e room_1 s m args below meth c H locs cells slots Q (F0 m pc ls [.int y]) := by
  obtain ⟨hx, hb, -⟩ := id hC
  refine lv_istore (lv' := (7, .int y) :: [(6, .int K), (0, .ref b), (1, .ref a6), (2, .ref a7), (3, .ref oL), (4, .ref oD), (5, .int xi)]) hx hb d0 hl (by decide) rfl (fun ls hl => ?_)
  refine lv_aload_n hx hb d2 rfl (lv_at hl 4 rfl) ?_
  refine sm_cVPr (rest := []) hC hK hP hM qyX7_thrown wl_RL_108 ⟨Nat.le_of_ble_eq_true rfl, Nat.le_of_ble_eq_true rfl⟩ 0 h0 rfl rfl hl.1 rfl (Nat.le_of_ble_eq_true rfl) d3 hf ?_
  refine lv_iload hx hb d6 (lv_at hl 1 rfl) ?_
  refine lv_icmp_eq (tgt := pc + 13) hx hb d8 (by omega) (fun _ => ?_) (fun z => absurd hKr z)
  refine lv_iload hx hb d13 (lv_at hl 1 rfl) ?_
  refine lv_if_ne (tgt := pc + 30) hx hb d15 (by omega) (fun hk => ?_) (fun hk => ?_)
  · exact lv_goto (tgt := 1616) hx hb d30 ht (kk ls (lv_sub hl [2, 3, 4, 5, 6, 7] rfl))
  · refine lv_aload_n hx hb d18 rfl (lv_at hl 5 rfl) ?_
    refine lv_iconst (v := 0) hx hb d19 (by decide) ?_
    refine sm_lld hx hb hK hP q3 h3 0 rfl (by decide) (by decide) d20 ?_
    refine lv_iload hx hb d21 (lv_at hl 0 rfl) ?_
    refine lv_i2l (v := y.toInt64) hx hb d23 rfl ?_
    refine W.lcmp hx hb d24 ?_
    refine lv_if_eq (tgt := pc + 30) hx hb d25 (by omega) (fun _ => ?_) (fun z => absurd (by rw [hg hk, hxy hk]; exact sw_lc _) z)
    exact lv_goto (tgt := 1616) hx hb d30 ht (kk ls (lv_sub hl [2, 3, 4, 5, 6, 7] rfl))
theorem sw_tZ (hC : sm_Cx p s m args meth c cL_law 9 ret RL) (hK : sm_K D s) (hP : va_P D.1 sm_cl ws H) {a6 a7 oL oD : Nat} {xi K Kr : Int32} {fs : List Value} (hM : sm_MP l yX7_thrown cX7_thrown 1 (some .int) 0 0 [.ref a7] D ws (some (.int Kr))) (h0 : ws[0]? = some (a7, .inr (7, fs))) (hKr : Kr = K) (q3 : Nat) {g : Nat → Int64} (h3 : ws[q3]? = some (oL, .inl (D.2 3, 1, .inr (.inl g)))) {y x : Bool} (hg : K = 0 → g 0 = if x = true then 1 else 0) (hxy : K = 0 → y = x) (hl : lv_has ls 9 [(6, .int K), (0, .ref b), (1, .ref a6), (2, .ref a7), (3, .ref oL), (4, .ref oD), (5, .int xi)]) (hf : cells ≤ room_1.cells ∧ slots ≤ room_1.slots) {off : Int} (ht : ((pc + 37 : Nat) : Int) + off = ((1616 : Nat) : Int))
    (d0 : decode cL_law pc = .ok (.istore 7, 2)) (d2 : decode cL_law (pc + 2) = .ok (.aload_n 2, 1)) (d3 : decode cL_law (pc + 3) = .ok (.invokevirtual 108, 3)) (d6 : decode cL_law (pc + 6) = .ok (.iload 6, 2)) (d8 : decode cL_law (pc + 8) = .ok (.if_icmp .eq 5, 3)) (d13 : decode cL_law (pc + 13) = .ok (.iload 6, 2)) (d15 : decode cL_law (pc + 15) = .ok (.ifCond .ne 22, 3)) (d18 : decode cL_law (pc + 18) = .ok (.aload_n 3, 1)) (d19 : decode cL_law (pc + 19) = .ok (.iconst 0, 1)) (d20 : decode cL_law (pc + 20) = .ok (.laload, 1)) (d21 : decode cL_law (pc + 21) = .ok (.iload 7, 2)) (d23 : decode cL_law (pc + 23) = .ok (.ifCond .eq 7, 3)) (d26 : decode cL_law (pc + 26) = .ok (.lconst 1, 1)) (d27 : decode cL_law (pc + 27) = .ok (.goto 4, 3)) (d30 : decode cL_law (pc + 30) = .ok (.lconst 0, 1)) (d31 : decode cL_law (pc + 31) = .ok (.lcmp, 1)) (d32 : decode cL_law (pc + 32) = .ok (.ifCond .eq 5, 3)) (d37 : decode cL_law (pc + 37) = .ok (.goto off, 3))
    (kk : ∀ ls : Array Slot, lv_has ls 9 [(0, .ref b), (1, .ref a6), (2, .ref a7), (3, .ref oL), (4, .ref oD), (5, .int xi)] → W p l e room_1 s m args below meth c H locs cells slots Q (F0 m 1616 ls [])) : W p l e room_1 s m args below meth c H locs cells slots Q (F0 m pc ls [.int (sm_b y)]) := by
  obtain ⟨hx, hb, -⟩ := id hC
  refine lv_istore (lv' := (7, .int (sm_b y)) :: [(6, .int K), (0, .ref b), (1, .ref a6), (2, .ref a7), (3, .ref oL), (4, .ref oD), (5, .int xi)]) hx hb d0 hl (by decide) rfl (fun ls hl => ?_)
  refine lv_aload_n hx hb d2 rfl (lv_at hl 4 rfl) ?_
  refine sm_cVPr (rest := []) hC hK hP hM qyX7_thrown wl_RL_108 ⟨Nat.le_of_ble_eq_true rfl, Nat.le_of_ble_eq_true rfl⟩ 0 h0 rfl rfl hl.1 rfl (Nat.le_of_ble_eq_true rfl) d3 hf ?_
  refine lv_iload hx hb d6 (lv_at hl 1 rfl) ?_
  refine lv_icmp_eq (tgt := pc + 13) hx hb d8 (by omega) (fun _ => ?_) (fun z => absurd hKr z)
  refine lv_iload hx hb d13 (lv_at hl 1 rfl) ?_
  refine lv_if_ne (tgt := pc + 37) hx hb d15 (by omega) (fun hk => ?_) (fun hk => ?_)
  · exact lv_goto (tgt := 1616) hx hb d37 ht (kk ls (lv_sub hl [2, 3, 4, 5, 6, 7] rfl))
  · refine lv_aload_n hx hb d18 rfl (lv_at hl 5 rfl) ?_
    refine lv_iconst (v := 0) hx hb d19 (by decide) ?_
    refine sm_lld hx hb hK hP q3 h3 0 rfl (by decide) (by decide) d20 ?_
    refine lv_iload hx hb d21 (lv_at hl 0 rfl) ?_
    refine lv_if_eq (tgt := pc + 30) hx hb d23 (by omega) (fun h => ?_) (fun h => ?_)
    · refine lv_lconst (v := 0) hx hb d30 (by decide) ?_
      refine W.lcmp hx hb d31 ?_
      refine lv_if_eq (tgt := pc + 37) hx hb d32 (by omega) (fun _ => ?_) (fun z => absurd (by rw [hg hk, ← hxy hk, sm_b0 h]; exact sw_lc _) z)
      exact lv_goto (tgt := 1616) hx hb d37 ht (kk ls (lv_sub hl [2, 3, 4, 5, 6, 7] rfl))
    · refine lv_lconst (v := 1) hx hb d26 (by decide) ?_
      refine lv_goto (tgt := pc + 31) hx hb d27 (by omega) ?_
      refine W.lcmp hx hb d31 ?_
      refine lv_if_eq (tgt := pc + 37) hx hb d32 (by omega) (fun _ => ?_) (fun z => absurd (by rw [hg hk, ← hxy hk, sm_b1 h]; exact sw_lc _) z)
      exact lv_goto (tgt := 1616) hx hb d37 ht (kk ls (lv_sub hl [2, 3, 4, 5, 6, 7] rfl))
theorem sw_tL (hC : sm_Cx p s m args meth c cL_law 9 ret RL) (hK : sm_K D s) (hP : va_P D.1 sm_cl ws H) {a6 a7 oL oD : Nat} {xi K Kr : Int32} {fs : List Value} (hM : sm_MP l yX7_thrown cX7_thrown 1 (some .int) 0 0 [.ref a7] D ws (some (.int Kr))) (h0 : ws[0]? = some (a7, .inr (7, fs))) (hKr : Kr = K) (q3 : Nat) {g : Nat → Int64} (h3 : ws[q3]? = some (oL, .inl (D.2 3, 1, .inr (.inl g)))) {y x : Int64} (hg : K = 0 → g 0 = x) (hxy : K = 0 → y = x) (hl : lv_has ls 9 [(6, .int K), (0, .ref b), (1, .ref a6), (2, .ref a7), (3, .ref oL), (4, .ref oD), (5, .int xi)]) (hf : cells ≤ room_1.cells ∧ slots ≤ room_1.slots) {off : Int} (ht : ((pc + 29 : Nat) : Int) + off = ((1616 : Nat) : Int))
    (d0 : decode cL_law pc = .ok (.lstore 7, 2)) (d2 : decode cL_law (pc + 2) = .ok (.aload_n 2, 1)) (d3 : decode cL_law (pc + 3) = .ok (.invokevirtual 108, 3)) (d6 : decode cL_law (pc + 6) = .ok (.iload 6, 2)) (d8 : decode cL_law (pc + 8) = .ok (.if_icmp .eq 5, 3)) (d13 : decode cL_law (pc + 13) = .ok (.iload 6, 2)) (d15 : decode cL_law (pc + 15) = .ok (.ifCond .ne 14, 3)) (d18 : decode cL_law (pc + 18) = .ok (.aload_n 3, 1)) (d19 : decode cL_law (pc + 19) = .ok (.iconst 0, 1)) (d20 : decode cL_law (pc + 20) = .ok (.laload, 1)) (d21 : decode cL_law (pc + 21) = .ok (.lload 7, 2)) (d23 : decode cL_law (pc + 23) = .ok (.lcmp, 1)) (d24 : decode cL_law (pc + 24) = .ok (.ifCond .eq 5, 3)) (d29 : decode cL_law (pc + 29) = .ok (.goto off, 3))
    (kk : ∀ ls : Array Slot, lv_has ls 9 [(0, .ref b), (1, .ref a6), (2, .ref a7), (3, .ref oL), (4, .ref oD), (5, .int xi)] → W p l e room_1 s m args below meth c H locs cells slots Q (F0 m 1616 ls [])) : W p l e room_1 s m args below meth c H locs cells slots Q (F0 m pc ls [.long y]) := by
  obtain ⟨hx, hb, -⟩ := id hC
  refine lv_lstore (lv' := (7, .long y) :: [(6, .int K), (0, .ref b), (1, .ref a6), (2, .ref a7), (3, .ref oL), (4, .ref oD), (5, .int xi)]) hx hb d0 hl (by decide) rfl (fun ls hl => ?_)
  refine lv_aload_n hx hb d2 rfl (lv_at hl 4 rfl) ?_
  refine sm_cVPr (rest := []) hC hK hP hM qyX7_thrown wl_RL_108 ⟨Nat.le_of_ble_eq_true rfl, Nat.le_of_ble_eq_true rfl⟩ 0 h0 rfl rfl hl.1 rfl (Nat.le_of_ble_eq_true rfl) d3 hf ?_
  refine lv_iload hx hb d6 (lv_at hl 1 rfl) ?_
  refine lv_icmp_eq (tgt := pc + 13) hx hb d8 (by omega) (fun _ => ?_) (fun z => absurd hKr z)
  refine lv_iload hx hb d13 (lv_at hl 1 rfl) ?_
  refine lv_if_ne (tgt := pc + 29) hx hb d15 (by omega) (fun hk => ?_) (fun hk => ?_)
  · exact lv_goto (tgt := 1616) hx hb d29 ht (kk ls (lv_sub hl [2, 3, 4, 5, 6, 7] rfl))
  · refine lv_aload_n hx hb d18 rfl (lv_at hl 5 rfl) ?_
    refine lv_iconst (v := 0) hx hb d19 (by decide) ?_
    refine sm_lld hx hb hK hP q3 h3 0 rfl (by decide) (by decide) d20 ?_
    refine lv_lload hx hb d21 (lv_at hl 0 rfl) ?_
    refine W.lcmp hx hb d23 ?_
    refine lv_if_eq (tgt := pc + 29) hx hb d24 (by omega) (fun _ => ?_) (fun z => absurd (by rw [hg hk, hxy hk]; exact sw_lc _) z)
    exact lv_goto (tgt := 1616) hx hb d29 ht (kk ls (lv_sub hl [2, 3, 4, 5, 6, 7] rfl))
end
