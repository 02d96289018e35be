/-! the class's own throws -/
abbrev sm_nn : List String := ["java/lang/RuntimeException", "java/lang/Exception"]
/-- what the tables say of an exception class that StoreMover throws -/
def sm_xcS (E : String) (ik ic : Nat) : Prop := Cond.classLink RX6 ik E ∈ wsL_law ∧ Cond.initialized E ∈ wsL_law ∧ ((∀ w ∈ (vx_atS RX6 ic E sm_nn).filter goodWord, w ∈ wsL_law) ∧ (∀ w ∈ (vx_atS RX6 ic E sm_nn).filter (fun w => !goodWord w), w ∈ Cond.castable E E :: sm_nd.map Cond.declares) ∧ E ∈ sm_ce) ∧ Bundle.fit E = true ∧ ∀ w ∈ Cond.classLink RX6 ik E :: Cond.initialized E :: vx_atS RX6 ic E sm_nn, vx_ot w = true
def sm_xcN (E : String) (ik ic : Nat) : Prop := Cond.classLink RX6 ik E ∈ wsL_law ∧ Cond.initialized E ∈ wsL_law ∧ ((∀ w ∈ (sw_atN RX6 ic E 13 sw_b13 "java/lang/RuntimeException" ["java/lang/Exception"]).filter goodWord, w ∈ wsL_law) ∧ (∀ w ∈ (sw_atN RX6 ic E 13 sw_b13 "java/lang/RuntimeException" ["java/lang/Exception"]).filter (fun w => !goodWord w), w ∈ Cond.castable E E :: sm_nd.map Cond.declares) ∧ E ∈ sm_ce) ∧ Bundle.fit E = true ∧ ∀ w ∈ Cond.classLink RX6 ik E :: Cond.initialized E :: sw_atN RX6 ic E 13 sw_b13 "java/lang/RuntimeException" ["java/lang/Exception"], vx_ot w = true
def sm_xc (E : String) (ik ic : Nat) : Prop := sm_xcS E ik ic ∨ sm_xcN E ik ic
theorem sm_nnfit : ∀ n ∈ sm_nn, Bundle.fit n = true := by decide +kernel
theorem sw_RTfit : Bundle.fit "java/lang/RuntimeException" = true := by decide +kernel
theorem sw_EXfit : ∀ n ∈ ["java/lang/Exception"], Bundle.fit n = true := by decide +kernel
theorem sm_hatL {D : sm_G} {E : String} {L : List Cond} {args : Array Value} {s : State} (hts : ∀ w ∈ wsL_law, w.before args s = true) (hK : sm_K D s) (h : (∀ w ∈ (L).filter goodWord, w ∈ wsL_law) ∧ (∀ w ∈ (L).filter (fun w => !goodWord w), w ∈ Cond.castable E E :: sm_nd.map Cond.declares) ∧ E ∈ sm_ce) : ∀ w ∈ L, w.before args s = true :=
  vx_hat (fun w hw => hts _ (h.1 w hw)) h.2.1 (fun w hw => by
    rcases List.mem_cons.mp hw with e | e
    · rw [e]; exact va_Nw.use rfl (hK.2.2.2.2.2 E h.2.2)
    · obtain ⟨q, hq, e⟩ := List.mem_map.mp e
      rw [← e]; exact va_Nw.use rfl (hK.2.2.2.2.1 q hq))
section SMT
variable {p : Program} {l : Launch} {e : Env} {R : Room} {s : State} {m : MethodId} {args : Array Value} {below : List Frame} {meth : Method} {c : Code} {H : Heap} {locs : List Loc} {cells slots : Nat} {Q : State → Prop}
variable {cc : ByteArray} {pc : Nat} {ls : Array Slot} {rest : List Value} {D : sm_G} {w0 w1 : va_W} {nL : Nat} {rt : Option FieldType} {B : va_W → Prop} {r : String ⊕ Option Value} {Qc : Array Value → State → Outcome → State → Prop}
theorem sm_chT (hP : va_P D.1 sm_cl w1 H) (hD : va_D (sm_ad w0) w1) (hS : va_S (sm_ad w0) s.heap H locs) (hB : B w1) {t : State} (h1 : H.size ≤ t.heap.size) (h2 : ∀ q : Nat, q < H.size → t.heap[q]? = H[q]?) : sm_Ch D w0 B s t :=
  ⟨⟨w1, hB, fun k q hq => (hP k q hq).kept (h2 q.1 (hP k q hq).lt), hD⟩, Nat.le_trans hS.1 h1, fun q g1 g2 => by rw [h2 q (Nat.lt_of_lt_of_le g1 hS.1)]; exact hS.2.1 q g1 g2⟩
theorem sm_throw {E text : String} {ik is ic : Nat} (hl : l.stackTraces = false) (hC : sm_Cx p s m args meth c cc nL rt RX6) (htab : ∀ x ∈ c.exceptionTable.toList, False) (hK : sm_K D s) (hZ : sm_Z (sm_ad w0) s s.heap) (hP : va_P D.1 sm_cl w1 H) (hD : va_D (sm_ad w0) w1) (hS : va_S (sm_ad w0) s.heap H locs) (hv : r = .inl E) (hB : B w1) (hsz : ls.size = nL) (hE : sm_xc E ik ic) (hstr : (is, text) ∈ sm_str)
    (d0 : decode cc pc = .ok (.new ik, 3)) (d3 : decode cc (pc + 3) = .ok (.dup, 1)) (d4 : decode cc (pc + 4) = .ok (.ldc is, 2)) (d6 : decode cc (pc + 6) = .ok (.invokespecial ic, 3)) (d9 : decode cc (pc + 9) = .ok (.athrow, 1))
    (hR : 5 < R.frames ∧ 82 ≤ R.locals ∧ cells + 1 ≤ R.cells ∧ slots + 6 ≤ R.slots) (hc : cells + 1 ≤ 1) (hs : slots + 6 ≤ 6) : W p l e R s m args below meth c H locs cells slots (vx_MQ below Qc (sm_Xx D w0 B r) args s 1 6 (sm_ad w0)) (F0 m pc ls []) := by
  obtain ⟨hx, hb, hml, hr, hown, hlk, hts⟩ := hC
  obtain ⟨sa, hsa⟩ := hK.2.2.1 _ hstr
  rcases hE with hE | hE
  · exact vx_throwS hx hb hl hown hE.2.2.2.1 sm_nnfit (hts _ hE.1) (hts _ hE.2.1) hsa (sm_hatL hts hK hE.2.2.1) hE.2.2.2.2 hZ.1 hZ.2 hS (hsz.trans hml.symm) d0 d3 d4 d6 d9 (fun x h => (htab x h).elim) (by show 2 + 3 < _; exact hR.1) (by show 0 + (13 * (2 + 1) + 43) ≤ _; exact hR.2.1) hR.2.2.1 hR.2.2.2 hlk (fun t _ h1 h2 => ⟨hv, sm_chT hP hD hS hB h1 h2⟩) hS.2.2 hc hs
  · exact sw_throwN hx hb hl hown hE.2.2.2.1 sw_RTfit sw_b13_0 sw_b13_1 sw_b13_2 sw_b13_5 sw_EXfit (hts _ hE.1) (hts _ hE.2.1) hsa (sm_hatL hts hK hE.2.2.1) hE.2.2.2.2 hZ.1 hZ.2 hS (hsz.trans hml.symm) d0 d3 d4 d6 d9 (fun x h => (htab x h).elim) (by show 1 + 4 < _; exact hR.1) (by show 0 + (13 * (1 + 2) + 43) ≤ _; exact hR.2.1) hR.2.2.1 hR.2.2.2 hlk (fun t _ h1 h2 => ⟨hv, sm_chT hP hD hS hB h1 h2⟩) hS.2.2 hc hs
theorem sm_throwW {E text : String} {ik is ic : Nat} (hl : l.stackTraces = false) (hC : sm_Cx p s m args meth c cc nL rt RX6) (htab : ∀ x ∈ c.exceptionTable.toList, False) (hK : sm_K D s) (hZ : sm_Z (sm_ad w0) s s.heap) (hP : va_P D.1 sm_cl w1 H) (hD : va_D (sm_ad w0) w1) (hS : va_S (sm_ad w0) s.heap H locs) (hv : r = .inl E) (hB : B w1) (hsz : ls.size = nL) (hE : sm_xc E ik ic) (hstr : (is, text) ∈ sm_str)
    (d0 : decode cc pc = .ok (.new ik, 3)) (d3 : decode cc (pc + 3) = .ok (.dup, 1)) (d4 : decode cc (pc + 4) = .ok (.ldc_w is, 3)) (d6 : decode cc (pc + 7) = .ok (.invokespecial ic, 3)) (d9 : decode cc (pc + 10) = .ok (.athrow, 1))
    (hR : 5 < R.frames ∧ 82 ≤ R.locals ∧ cells + 1 ≤ R.cells ∧ slots + 6 ≤ R.slots) (hc : cells + 1 ≤ 1) (hs : slots + 6 ≤ 6) : W p l e R s m args below meth c H locs cells slots (vx_MQ below Qc (sm_Xx D w0 B r) args s 1 6 (sm_ad w0)) (F0 m pc ls []) := by
  obtain ⟨hx, hb, hml, hr, hown, hlk, hts⟩ := hC
  obtain ⟨sa, hsa⟩ := hK.2.2.1 _ hstr
  rcases hE with hE | hE
  · exact vx_throwSW hx hb hl hown hE.2.2.2.1 sm_nnfit (hts _ hE.1) (hts _ hE.2.1) hsa (sm_hatL hts hK hE.2.2.1) hE.2.2.2.2 hZ.1 hZ.2 hS (hsz.trans hml.symm) d0 d3 d4 d6 d9 (fun x h => (htab x h).elim) (by show 2 + 3 < _; exact hR.1) (by show 0 + (13 * (2 + 1) + 43) ≤ _; exact hR.2.1) hR.2.2.1 hR.2.2.2 hlk (fun t _ h1 h2 => ⟨hv, sm_chT hP hD hS hB h1 h2⟩) hS.2.2 hc hs
  · exact sw_throwNW hx hb hl hown hE.2.2.2.1 sw_RTfit sw_b13_0 sw_b13_1 sw_b13_2 sw_b13_5 sw_EXfit (hts _ hE.1) (hts _ hE.2.1) hsa (sm_hatL hts hK hE.2.2.1) hE.2.2.2.2 hZ.1 hZ.2 hS (hsz.trans hml.symm) d0 d3 d4 d6 d9 (fun x h => (htab x h).elim) (by show 1 + 4 < _; exact hR.1) (by show 0 + (13 * (1 + 2) + 43) ≤ _; exact hR.2.1) hR.2.2.1 hR.2.2.2 hlk (fun t _ h1 h2 => ⟨hv, sm_chT hP hD hS hB h1 h2⟩) hS.2.2 hc hs
end SMT
set_option maxRecDepth 20000 in
theorem sm_xIA : sm_xc sm_IA 75 79 := Or.inl ⟨List.mem_of_getElem? (i := 131) rfl, List.mem_of_getElem? (i := 132) rfl, ⟨fun _ h => List.mem_append_left _ (List.mem_append_left _ (List.mem_append_left _ (List.mem_append_left _ (List.mem_append_left _ (List.mem_append_left _ (List.mem_append_right _ h)))))), by decide +kernel, by decide +kernel⟩, by decide +kernel, by decide +kernel⟩
set_option maxRecDepth 20000 in
theorem sm_xIS : sm_xc sm_IS 86 90 := Or.inl ⟨List.mem_of_getElem? (i := 133) rfl, List.mem_of_getElem? (i := 134) rfl, ⟨fun _ h => List.mem_append_left _ (List.mem_append_left _ (List.mem_append_left _ (List.mem_append_left _ (List.mem_append_left _ (List.mem_append_right _ h))))), by decide +kernel, by decide +kernel⟩, by decide +kernel, by decide +kernel⟩
set_option maxRecDepth 20000 in
theorem sm_xUO : sm_xc sm_UO 112 116 := Or.inl ⟨List.mem_of_getElem? (i := 209) rfl, List.mem_of_getElem? (i := 210) rfl, ⟨fun _ h => List.mem_append_left _ (List.mem_append_left _ (List.mem_append_left _ (List.mem_append_left _ (List.mem_append_right _ h)))), by decide +kernel, by decide +kernel⟩, by decide +kernel, by decide +kernel⟩
set_option maxRecDepth 20000 in
theorem sm_xNS : sm_xc sm_NS 204 208 := Or.inr ⟨List.mem_of_getElem? (i := 583) rfl, List.mem_of_getElem? (i := 584) rfl, ⟨fun _ h => List.mem_append_left _ (List.mem_append_left _ (List.mem_append_right _ h)), by decide +kernel, by decide +kernel⟩, by decide +kernel, by decide +kernel⟩
set_option maxRecDepth 20000 in
theorem sm_xIO : sm_xc sm_IO 227 231 := Or.inl ⟨List.mem_of_getElem? (i := 636) rfl, List.mem_of_getElem? (i := 637) rfl, ⟨fun _ h => List.mem_append_left _ (List.mem_append_right _ h), by decide +kernel, by decide +kernel⟩, by decide +kernel, by decide +kernel⟩
set_option maxRecDepth 20000 in
theorem sm_xAR : sm_xc sm_AR 298 302 := Or.inl ⟨List.mem_of_getElem? (i := 835) rfl, List.mem_of_getElem? (i := 836) rfl, ⟨fun _ h => List.mem_append_right _ h, by decide +kernel, by decide +kernel⟩, by decide +kernel, by decide +kernel⟩
