/-! the cases of the law, 1 -/
theorem sw_dAS : ¬ sm_IA = sm_IS := by decide +kernel
theorem sw_dAN : ¬ sm_IA = sm_NS := by decide +kernel
theorem sw_dSU : ¬ sm_IS = sm_UO := by decide +kernel
theorem sw_dAU : ¬ sm_IA = sm_UO := by decide +kernel
theorem sw_dNU : ¬ sm_NS = sm_UO := by decide +kernel
theorem sw_i2c (x : Int32) : vp_nar .char ((x.toUInt32 % 65536).toInt32) = (x.toUInt32 % 65536).toInt32 := by
  show (((x.toUInt32 % 65536).toInt32).toUInt32 % 65536).toInt32 = _
  rw [UInt32.toUInt32_toInt32]
  congr 1
  apply UInt32.toNat_inj.mp
  rw [UInt32.toNat_mod, UInt32.toNat_mod]
  exact Nat.mod_mod _ _
theorem sw_key {x : Int32} {k : Nat} (e : x = nI k) (hk : k < 40) : ¬ sm_isKey x = false := by
  rw [e]
  unfold sm_isKey
  rw [if_neg (sm_nIp (by omega)), if_pos (show nI k < 40 from sm_pNlt (a := k) (b := 40) hk (by decide))]
  decide
set_option maxRecDepth 100000 in
theorem sw_c_addStep {p : Program} {l : Launch} {e : Env} {s : State} {m : MethodId} {below : List Frame} {meth : Method} {c : Code} {H : Heap} {locs : List Loc} {cells slots : Nat} {Q : State → Prop} {ls : Array Slot} {D : sm_G} {b L i : Nat} {xs : Nat → Int32} {ad am : Nat → Nat} {oL oD : Nat} (X : sw_X p l s m meth c b L xs D) (hi : i + 4 ≤ L) (hI : sw_I s D b ad am oL oD (nI i) ls H locs) (hf : cells + 1 ≤ room_1.cells ∧ slots + 6 ≤ room_1.slots) (go : ∀ (H : Heap) (locs : List Loc) (ls : Array Slot), sw_I s D b ad am oL oD (nI i) ls H locs → W p l e room_1 s m #[Value.ref b] below meth c H locs (cells + 1) (slots + 6) Q (F0 m 1616 ls [])) : W p l e room_1 s m #[Value.ref b] below meth c H locs cells slots Q (F0 m 172 ls []) := by
  obtain ⟨hC, hK, hZ, hlt, hX, hbl, hL⟩ := id X
  obtain ⟨hx, hb, hml, hrt, hown, hlk, hts⟩ := id hC
  obtain ⟨P, S, T, Lg, M, C, cp, ph, fo, ne, no, rc, U, nm, Z, cq, th, n2, rd, np, pw, ev, od, gL, gD, hR, hP, hD, hS, hl⟩ := hI
  obtain ⟨⟨hP6, hOK⟩, hph, ⟨hL1, hLk, hfo⟩, ⟨hM1, hMk, hn2, hnR⟩, ⟨hT, hB⟩, ⟨hne, hno⟩, ⟨hrd, hnp, hpw, hpR⟩⟩ := id hR
  have hf0 : cells ≤ room_1.cells ∧ slots ≤ room_1.slots := ⟨Nat.le_of_succ_le hf.1, Nat.le_trans (Nat.le_add_right _ _) hf.2⟩
  have hTk : ∀ k, sm_kv (U.1 k) := fun k => by rw [← hT.1]; exact hB.1 k
  have hC40 : C.2.2.2.2.2.2.2 ≤ 40 := hpR.1.2
  have hcx : C.2.2.2.2.2.1 ≤ C.2.2.2.2.2.2.2 := hpR.1.1
  have hw8 : C.2.2.2.2.2.2.1 ≤ 8 := sm_pR8 hpR
  have hwt : C.2.2.2.2.2.2.1 ≤ 40 := Nat.le_trans hw8 (by decide)
  have hrd40 : rd ≤ 40 := by rw [hrd]; exact hC40
  have hpw40 : pw ≤ 40 := by rw [hpw]; exact hwt
  have hn120 : n2 ≤ 120 := by rw [hn2]; exact hM1
  obtain ⟨kc, hkc0, hkc⟩ : ∃ kc : Int32, ((xs (i + 1)).toUInt32 % 65536).toInt32 = kc ∧ vp_nar .char kc = kc := ⟨_, rfl, sw_i2c _⟩
  refine lv_aload_n hx hb dL_law_172 rfl (lv_at hl 1 rfl) ?_
  refine sw_arg X hS (i := i) (j := 1) (jI := 1) (by omega) (by decide) hl 0 rfl 5 rfl dL_law_173 dL_law_174 dL_law_176 dL_law_177 dL_law_178 ?_
  refine lv_i2c (v := kc) hx hb dL_law_179 hkc0 ?_
  refine sw_arg X hS (i := i) (j := 2) (jI := 2) (by omega) (by decide) hl 0 rfl 5 rfl dL_law_180 dL_law_181 dL_law_183 dL_law_184 dL_law_185 ?_
  refine lv_aload_n hx hb dL_law_186 rfl (lv_at hl 3 rfl) ?_
  refine sm_cH (rest := []) hC hK hP hD hS hZ (h_addStep (o := oL) (c_X6_addStep D ad P S T Lg M C cp ph fo ne no rc (sw_o D oL oD gL gD (sm_w7 D am P S U Lg nm Z cq ph th n2 fo rd np pw ev od rc [])) hlt kc (xs (i + 2)) hkc hP6) rfl (fun w h => ⟨gL, by rw [h]; rfl⟩) (fun v h => ⟨_, (sm_rsv h).2⟩) (fun E h => sm_e2 (sm_rAdd _ _ _ _) h)) qyL_addStep wl_RL_102 ⟨(Nat.le_of_ble_eq_true rfl), (Nat.le_of_ble_eq_true rfl)⟩ rfl hl.1 rfl (Nat.le_of_ble_eq_true rfl) dL_law_187 hf (fun k1 w1 H locs hB1 hP hD hS => ?_)
  obtain ⟨rfl, cp1, gL1, rfl, hg⟩ := sw_bI (K := (sm_kAdd P ph kc (xs (i + 2)))) (x := (nI (P.1 + 1))) (f := fun (a : sm_Cp) (g : Nat → Int64) => sm_w6 D ad (if sm_kAdd P ph kc (xs (i + 2)) = 0 then sm_addP P kc (xs (i + 2)) else P) S T Lg M C a ph fo ne no rc (sw_o D oL oD g gD (sm_w7 D am P S U Lg nm Z cq ph th n2 fo rd np pw ev od rc []))) (g0 := gL) (fun _ _ _ => rfl) (fun w h => ⟨cp, h⟩) (sm_h2 sw_dAS (sm_rAdd _ _ _ _) hB1)
  refine lv_istore (lv' := [(6, .int (sm_kAdd P ph kc (xs (i + 2)))), (0, .ref b), (1, .ref (ad 0)), (2, .ref (am 0)), (3, .ref oL), (4, .ref oD), (5, .int (nI i))]) hx hb dL_law_190 hl (by decide) rfl (fun ls hl => ?_)
  have hP := sw_tP hP
  have hD := sw_tD hD
  refine lv_aload_n hx hb dL_law_192 rfl (lv_at hl 3 rfl) ?_
  refine sw_arg X hS (i := i) (j := 1) (jI := 1) (by omega) (by decide) hl 1 rfl 6 rfl dL_law_193 dL_law_194 dL_law_196 dL_law_197 dL_law_198 ?_
  refine lv_i2c (v := kc) hx hb dL_law_199 hkc0 ?_
  refine sw_arg X hS (i := i) (j := 2) (jI := 2) (by omega) (by decide) hl 1 rfl 6 rfl dL_law_200 dL_law_201 dL_law_203 dL_law_204 dL_law_205 ?_
  refine sm_cVCr (rest := []) hC hK hP hD hS hZ (c_X7_addStep D am P S U Lg nm Z cq ph th n2 fo rd np pw ev od rc _ kc (xs (i + 2)) hkc hP6) qyX7_addStep wl_RL_107 ⟨(Nat.le_of_ble_eq_true rfl), (Nat.le_of_ble_eq_true rfl)⟩ 0 rfl rfl rfl hl.1 rfl (Nat.le_of_ble_eq_true rfl) dL_law_206 hf (fun w1 H locs hB1 hP hD hS => ?_)
  obtain rfl := hB1
  exact sw_tI hC hK hP (c_X7_thrown _ _ _ _ _ _ _ _ _ _ _ _ _ _ _ _ _ _ _ _) rfl (rfl) 53 rfl hg (fun z => if_pos z) hl hf (by decide) dL_law_209 dL_law_211 dL_law_212 dL_law_215 dL_law_217 dL_law_222 dL_law_224 dL_law_227 dL_law_228 dL_law_229 dL_law_230 dL_law_232 dL_law_233 dL_law_234 dL_law_239 (fun ls hl => go _ _ _ (sw_mk (sm_RlAdd hR) hP hD hS hl (rfl) (rfl) (rfl) (rfl) (rfl) (rfl)))
set_option maxRecDepth 100000 in
theorem sw_c_start {p : Program} {l : Launch} {e : Env} {s : State} {m : MethodId} {below : List Frame} {meth : Method} {c : Code} {H : Heap} {locs : List Loc} {cells slots : Nat} {Q : State → Prop} {ls : Array Slot} {D : sm_G} {b L i : Nat} {xs : Nat → Int32} {ad am : Nat → Nat} {oL oD : Nat} (X : sw_X p l s m meth c b L xs D) (hi : i + 4 ≤ L) (hI : sw_I s D b ad am oL oD (nI i) ls H locs) (hf : cells + 1 ≤ room_1.cells ∧ slots + 6 ≤ room_1.slots) (go : ∀ (H : Heap) (locs : List Loc) (ls : Array Slot), sw_I s D b ad am oL oD (nI i) ls H locs → W p l e room_1 s m #[Value.ref b] below meth c H locs (cells + 1) (slots + 6) Q (F0 m 1616 ls [])) : W p l e room_1 s m #[Value.ref b] below meth c H locs cells slots Q (F0 m 242 ls []) := by
  obtain ⟨hC, hK, hZ, hlt, hX, hbl, hL⟩ := id X
  obtain ⟨hx, hb, hml, hrt, hown, hlk, hts⟩ := id hC
  obtain ⟨P, S, T, Lg, M, C, cp, ph, fo, ne, no, rc, U, nm, Z, cq, th, n2, rd, np, pw, ev, od, gL, gD, hR, hP, hD, hS, hl⟩ := hI
  obtain ⟨⟨hP6, hOK⟩, hph, ⟨hL1, hLk, hfo⟩, ⟨hM1, hMk, hn2, hnR⟩, ⟨hT, hB⟩, ⟨hne, hno⟩, ⟨hrd, hnp, hpw, hpR⟩⟩ := id hR
  have hf0 : cells ≤ room_1.cells ∧ slots ≤ room_1.slots := ⟨Nat.le_of_succ_le hf.1, Nat.le_trans (Nat.le_add_right _ _) hf.2⟩
  have hTk : ∀ k, sm_kv (U.1 k) := fun k => by rw [← hT.1]; exact hB.1 k
  have hC40 : C.2.2.2.2.2.2.2 ≤ 40 := hpR.1.2
  have hcx : C.2.2.2.2.2.1 ≤ C.2.2.2.2.2.2.2 := hpR.1.1
  have hw8 : C.2.2.2.2.2.2.1 ≤ 8 := sm_pR8 hpR
  have hwt : C.2.2.2.2.2.2.1 ≤ 40 := Nat.le_trans hw8 (by decide)
  have hrd40 : rd ≤ 40 := by rw [hrd]; exact hC40
  have hpw40 : pw ≤ 40 := by rw [hpw]; exact hwt
  have hn120 : n2 ≤ 120 := by rw [hn2]; exact hM1
  refine lv_aload_n hx hb dL_law_242 rfl (lv_at hl 1 rfl) ?_
  refine lv_aload_n hx hb dL_law_243 rfl (lv_at hl 3 rfl) ?_
  refine sm_cH (rest := []) hC hK hP hD hS hZ (h_start (o := oL) (c_X6_start D ad P S T Lg M C cp ph fo ne no rc (sw_o D oL oD gL gD (sm_w7 D am P S U Lg nm Z cq ph th n2 fo rd np pw ev od rc [])) hlt) rfl (fun w h => ⟨gL, by rw [h]; rfl⟩) (fun v h => ⟨_, (sm_rsv h).2⟩) (fun E h => sm_e1 (sm_rPh _ _) h)) qyL_start wl_RL_111 ⟨(Nat.le_of_ble_eq_true rfl), (Nat.le_of_ble_eq_true rfl)⟩ rfl hl.1 rfl (Nat.le_of_ble_eq_true rfl) dL_law_244 hf (fun k1 w1 H locs hB1 hP hD hS => ?_)
  obtain ⟨rfl, cp1, gL1, rfl, hg⟩ := sw_bI (K := (sm_kPh 105 ph)) (x := (nI (sm_cnG S.1 40 0 0))) (f := fun (a : sm_Cp) (g : Nat → Int64) => sm_w6 D ad P S T Lg M C a (if sm_kPh 105 ph = 0 then 99 else ph) fo ne no rc (sw_o D oL oD g gD (sm_w7 D am P S U Lg nm Z cq ph th n2 fo rd np pw ev od rc []))) (g0 := gL) (fun _ _ _ => rfl) (fun w h => ⟨cp, h⟩) (sm_h1 (sm_rPh _ _) hB1)
  refine lv_istore (lv' := [(6, .int (sm_kPh 105 ph)), (0, .ref b), (1, .ref (ad 0)), (2, .ref (am 0)), (3, .ref oL), (4, .ref oD), (5, .int (nI i))]) hx hb dL_law_247 hl (by decide) rfl (fun ls hl => ?_)
  have hP := sw_tP hP
  have hD := sw_tD hD
  refine lv_aload_n hx hb dL_law_249 rfl (lv_at hl 3 rfl) ?_
  refine sm_cVCr (rest := []) hC hK hP hD hS hZ (c_X7_start D am P S U Lg nm Z cq ph th n2 fo rd np pw ev od rc _) qyX7_start wl_RL_114 ⟨(Nat.le_of_ble_eq_true rfl), (Nat.le_of_ble_eq_true rfl)⟩ 0 rfl rfl rfl hl.1 rfl (Nat.le_of_ble_eq_true rfl) dL_law_250 hf (fun w1 H locs hB1 hP hD hS => ?_)
  obtain rfl := hB1
  exact sw_tI hC hK hP (c_X7_thrown _ _ _ _ _ _ _ _ _ _ _ _ _ _ _ _ _ _ _ _) rfl (rfl) 53 rfl hg (fun z => if_pos z) hl hf (by decide) dL_law_253 dL_law_255 dL_law_256 dL_law_259 dL_law_261 dL_law_266 dL_law_268 dL_law_271 dL_law_272 dL_law_273 dL_law_274 dL_law_276 dL_law_277 dL_law_278 dL_law_283 (fun ls hl => go _ _ _ (sw_mk (sm_RlPh (Or.inr (Or.inl rfl)) hR) hP hD hS hl (rfl) (rfl) (rfl) (rfl) (rfl) (rfl)))
set_option maxRecDepth 100000 in
theorem sw_c_phase {p : Program} {l : Launch} {e : Env} {s : State} {m : MethodId} {below : List Frame} {meth : Method} {c : Code} {H : Heap} {locs : List Loc} {cells slots : Nat} {Q : State → Prop} {ls : Array Slot} {D : sm_G} {b L i : Nat} {xs : Nat → Int32} {ad am : Nat → Nat} {oL oD : Nat} (X : sw_X p l s m meth c b L xs D) (hi : i + 4 ≤ L) (hI : sw_I s D b ad am oL oD (nI i) ls H locs) (hf : cells + 1 ≤ room_1.cells ∧ slots + 6 ≤ room_1.slots) (go : ∀ (H : Heap) (locs : List Loc) (ls : Array Slot), sw_I s D b ad am oL oD (nI i) ls H locs → W p l e room_1 s m #[Value.ref b] below meth c H locs (cells + 1) (slots + 6) Q (F0 m 1616 ls [])) : W p l e room_1 s m #[Value.ref b] below meth c H locs cells slots Q (F0 m 286 ls []) := by
  obtain ⟨hC, hK, hZ, hlt, hX, hbl, hL⟩ := id X
  obtain ⟨hx, hb, hml, hrt, hown, hlk, hts⟩ := id hC
  obtain ⟨P, S, T, Lg, M, C, cp, ph, fo, ne, no, rc, U, nm, Z, cq, th, n2, rd, np, pw, ev, od, gL, gD, hR, hP, hD, hS, hl⟩ := hI
  obtain ⟨⟨hP6, hOK⟩, hph, ⟨hL1, hLk, hfo⟩, ⟨hM1, hMk, hn2, hnR⟩, ⟨hT, hB⟩, ⟨hne, hno⟩, ⟨hrd, hnp, hpw, hpR⟩⟩ := id hR
  have hf0 : cells ≤ room_1.cells ∧ slots ≤ room_1.slots := ⟨Nat.le_of_succ_le hf.1, Nat.le_trans (Nat.le_add_right _ _) hf.2⟩
  have hTk : ∀ k, sm_kv (U.1 k) := fun k => by rw [← hT.1]; exact hB.1 k
  have hC40 : C.2.2.2.2.2.2.2 ≤ 40 := hpR.1.2
  have hcx : C.2.2.2.2.2.1 ≤ C.2.2.2.2.2.2.2 := hpR.1.1
  have hw8 : C.2.2.2.2.2.2.1 ≤ 8 := sm_pR8 hpR
  have hwt : C.2.2.2.2.2.2.1 ≤ 40 := Nat.le_trans hw8 (by decide)
  have hrd40 : rd ≤ 40 := by rw [hrd]; exact hC40
  have hpw40 : pw ≤ 40 := by rw [hpw]; exact hwt
  have hn120 : n2 ≤ 120 := by rw [hn2]; exact hM1
  refine lv_aload_n hx hb dL_law_286 rfl (lv_at hl 1 rfl) ?_
  refine sm_cVPr (rest := []) hC hK hP (c_X6_phase D ad P S T Lg M C cp ph fo ne no rc (sw_o D oL oD gL gD (sm_w7 D am P S U Lg nm Z cq ph th n2 fo rd np pw ev od rc [])) hph) qyX6_phase wl_RL_115 ⟨(Nat.le_of_ble_eq_true rfl), (Nat.le_of_ble_eq_true rfl)⟩ 0 rfl rfl rfl hl.1 rfl (Nat.le_of_ble_eq_true rfl) dL_law_287 hf0 ?_
  have hP := sw_tP hP
  have hD := sw_tD hD
  refine lv_aload_n hx hb dL_law_290 rfl (lv_at hl 2 rfl) ?_
  refine sm_cVCr (rest := [.int ph]) hC hK hP hD hS hZ (c_X7_phase D am P S U Lg nm Z cq ph th n2 fo rd np pw ev od rc _ hph) qyX7_phase wl_RL_119 ⟨(Nat.le_of_ble_eq_true rfl), (Nat.le_of_ble_eq_true rfl)⟩ 0 rfl rfl rfl hl.1 rfl (Nat.le_of_ble_eq_true rfl) dL_law_291 hf0 (fun w1 H locs hB1 hP hD hS => ?_)
  obtain rfl := hB1
  refine lv_icmp_eq (tgt := 1616) hx hb dL_law_294 (by decide) (fun _ => ?_) (fun z => absurd (rfl) z)
  exact W.widen (k := cells + 1) (n := slots + 6) (Nat.le_succ _) (Nat.le_add_right _ _) (go _ _ _ (sw_mk hR hP hD hS hl rfl rfl rfl rfl rfl rfl))
set_option maxRecDepth 100000 in
theorem sw_c_goToBoth {p : Program} {l : Launch} {e : Env} {s : State} {m : MethodId} {below : List Frame} {meth : Method} {c : Code} {H : Heap} {locs : List Loc} {cells slots : Nat} {Q : State → Prop} {ls : Array Slot} {D : sm_G} {b L i : Nat} {xs : Nat → Int32} {ad am : Nat → Nat} {oL oD : Nat} (X : sw_X p l s m meth c b L xs D) (hi : i + 4 ≤ L) (hI : sw_I s D b ad am oL oD (nI i) ls H locs) (hf : cells + 1 ≤ room_1.cells ∧ slots + 6 ≤ room_1.slots) (go : ∀ (H : Heap) (locs : List Loc) (ls : Array Slot), sw_I s D b ad am oL oD (nI i) ls H locs → W p l e room_1 s m #[Value.ref b] below meth c H locs (cells + 1) (slots + 6) Q (F0 m 1616 ls [])) : W p l e room_1 s m #[Value.ref b] below meth c H locs cells slots Q (F0 m 299 ls []) := by
  obtain ⟨hC, hK, hZ, hlt, hX, hbl, hL⟩ := id X
  obtain ⟨hx, hb, hml, hrt, hown, hlk, hts⟩ := id hC
  obtain ⟨P, S, T, Lg, M, C, cp, ph, fo, ne, no, rc, U, nm, Z, cq, th, n2, rd, np, pw, ev, od, gL, gD, hR, hP, hD, hS, hl⟩ := hI
  obtain ⟨⟨hP6, hOK⟩, hph, ⟨hL1, hLk, hfo⟩, ⟨hM1, hMk, hn2, hnR⟩, ⟨hT, hB⟩, ⟨hne, hno⟩, ⟨hrd, hnp, hpw, hpR⟩⟩ := id hR
  have hf0 : cells ≤ room_1.cells ∧ slots ≤ room_1.slots := ⟨Nat.le_of_succ_le hf.1, Nat.le_trans (Nat.le_add_right _ _) hf.2⟩
  have hTk : ∀ k, sm_kv (U.1 k) := fun k => by rw [← hT.1]; exact hB.1 k
  have hC40 : C.2.2.2.2.2.2.2 ≤ 40 := hpR.1.2
  have hcx : C.2.2.2.2.2.1 ≤ C.2.2.2.2.2.2.2 := hpR.1.1
  have hw8 : C.2.2.2.2.2.2.1 ≤ 8 := sm_pR8 hpR
  have hwt : C.2.2.2.2.2.2.1 ≤ 40 := Nat.le_trans hw8 (by decide)
  have hrd40 : rd ≤ 40 := by rw [hrd]; exact hC40
  have hpw40 : pw ≤ 40 := by rw [hpw]; exact hwt
  have hn120 : n2 ≤ 120 := by rw [hn2]; exact hM1
  refine lv_aload_n hx hb dL_law_299 rfl (lv_at hl 1 rfl) ?_
  refine lv_aload_n hx hb dL_law_300 rfl (lv_at hl 3 rfl) ?_
  refine sm_cH (rest := []) hC hK hP hD hS hZ (h_goToBoth (o := oL) (c_X6_goToBoth D ad P S T Lg M C cp ph fo ne no rc (sw_o D oL oD gL gD (sm_w7 D am P S U Lg nm Z cq ph th n2 fo rd np pw ev od rc [])) hlt hC40 hwt hfo hL1 hLk hP6) rfl (fun w h => ⟨gL, by obtain ⟨_, rfl⟩ := h; rfl⟩) (fun v h => ⟨_, (sm_rsv h).2⟩) (fun E h => sm_e2 (sm_rGB _ _) h)) qyL_goToBoth wl_RL_120 ⟨(Nat.le_of_ble_eq_true rfl), (Nat.le_of_ble_eq_true rfl)⟩ rfl hl.1 rfl (Nat.le_of_ble_eq_true rfl) dL_law_301 hf (fun k1 w1 H locs hB1 hP hD hS => ?_)
  obtain ⟨rfl, cp1, gL1, rfl, hg⟩ := sw_bI (K := (sm_kGB ph C)) (x := (nI (min 120 (Lg.1 - fo)))) (f := fun (a : sm_Cp) (g : Nat → Int64) => sm_w6 D ad P S (if sm_kGB ph C = 0 then sm_foG P Lg (min 120 (Lg.1 - fo)) T fo else T) Lg M C a (if sm_kGB ph C = 0 then 98 else ph) (if sm_kGB ph C = 0 then fo + min 120 (Lg.1 - fo) else fo) ne no rc (sw_o D oL oD g gD (sm_w7 D am P S U Lg nm Z cq ph th n2 fo rd np pw ev od rc []))) (g0 := gL) (fun _ _ _ => rfl) (fun w h => h) (sm_h2 sw_dSU (sm_rGB _ _) hB1)
  refine lv_istore (lv' := [(6, .int (sm_kGB ph C)), (0, .ref b), (1, .ref (ad 0)), (2, .ref (am 0)), (3, .ref oL), (4, .ref oD), (5, .int (nI i))]) hx hb dL_law_304 hl (by decide) rfl (fun ls hl => ?_)
  have hP := sw_tP hP
  have hD := sw_tD hD
  refine lv_aload_n hx hb dL_law_306 rfl (lv_at hl 3 rfl) ?_
  refine sm_cVCr (rest := []) hC hK hP hD hS hZ (c_X7_goToBoth D am P S U Lg nm Z cq ph th n2 fo rd np pw ev od rc _ hfo hrd40 hpw40 hL1 hLk hP6 hOK hTk) qyX7_goToBoth wl_RL_122 ⟨(Nat.le_of_ble_eq_true rfl), (Nat.le_of_ble_eq_true rfl)⟩ 0 rfl rfl rfl hl.1 rfl (Nat.le_of_ble_eq_true rfl) dL_law_307 hf (fun w1 H locs hB1 hP hD hS => ?_)
  obtain ⟨cq1, rfl⟩ := hB1
  obtain ⟨q1, q2, q3, q4, q5⟩ := sw_m3 hR
  exact sw_tI hC hK hP (c_X7_thrown _ _ _ _ _ _ _ _ _ _ _ _ _ _ _ _ _ _ _ _) rfl (q1) 53 rfl hg (q2) hl hf (by decide) dL_law_310 dL_law_312 dL_law_313 dL_law_316 dL_law_318 dL_law_323 dL_law_325 dL_law_328 dL_law_329 dL_law_330 dL_law_331 dL_law_333 dL_law_334 dL_law_335 dL_law_340 (fun ls hl => go _ _ _ (sw_mk (q3) hP hD hS hl (rfl) (rfl) (rfl) (q4) (q5) (rfl)))
set_option maxRecDepth 100000 in
theorem sw_c_switchOver {p : Program} {l : Launch} {e : Env} {s : State} {m : MethodId} {below : List Frame} {meth : Method} {c : Code} {H : Heap} {locs : List Loc} {cells slots : Nat} {Q : State → Prop} {ls : Array Slot} {D : sm_G} {b L i : Nat} {xs : Nat → Int32} {ad am : Nat → Nat} {oL oD : Nat} (X : sw_X p l s m meth c b L xs D) (hi : i + 4 ≤ L) (hI : sw_I s D b ad am oL oD (nI i) ls H locs) (hf : cells + 1 ≤ room_1.cells ∧ slots + 6 ≤ room_1.slots) (go : ∀ (H : Heap) (locs : List Loc) (ls : Array Slot), sw_I s D b ad am oL oD (nI i) ls H locs → W p l e room_1 s m #[Value.ref b] below meth c H locs (cells + 1) (slots + 6) Q (F0 m 1616 ls [])) : W p l e room_1 s m #[Value.ref b] below meth c H locs cells slots Q (F0 m 343 ls []) := by
  obtain ⟨hC, hK, hZ, hlt, hX, hbl, hL⟩ := id X
  obtain ⟨hx, hb, hml, hrt, hown, hlk, hts⟩ := id hC
  obtain ⟨P, S, T, Lg, M, C, cp, ph, fo, ne, no, rc, U, nm, Z, cq, th, n2, rd, np, pw, ev, od, gL, gD, hR, hP, hD, hS, hl⟩ := hI
  obtain ⟨⟨hP6, hOK⟩, hph, ⟨hL1, hLk, hfo⟩, ⟨hM1, hMk, hn2, hnR⟩, ⟨hT, hB⟩, ⟨hne, hno⟩, ⟨hrd, hnp, hpw, hpR⟩⟩ := id hR
  have hf0 : cells ≤ room_1.cells ∧ slots ≤ room_1.slots := ⟨Nat.le_of_succ_le hf.1, Nat.le_trans (Nat.le_add_right _ _) hf.2⟩
  have hTk : ∀ k, sm_kv (U.1 k) := fun k => by rw [← hT.1]; exact hB.1 k
  have hC40 : C.2.2.2.2.2.2.2 ≤ 40 := hpR.1.2
  have hcx : C.2.2.2.2.2.1 ≤ C.2.2.2.2.2.2.2 := hpR.1.1
  have hw8 : C.2.2.2.2.2.2.1 ≤ 8 := sm_pR8 hpR
  have hwt : C.2.2.2.2.2.2.1 ≤ 40 := Nat.le_trans hw8 (by decide)
  have hrd40 : rd ≤ 40 := by rw [hrd]; exact hC40
  have hpw40 : pw ≤ 40 := by rw [hpw]; exact hwt
  have hn120 : n2 ≤ 120 := by rw [hn2]; exact hM1
  refine lv_aload_n hx hb dL_law_343 rfl (lv_at hl 1 rfl) ?_
  refine lv_aload_n hx hb dL_law_344 rfl (lv_at hl 3 rfl) ?_
  refine sm_cH (rest := []) hC hK hP hD hS hZ (h_switchOver (o := oL) (c_X6_switchOver D ad P S T Lg M C cp ph fo ne no rc (sw_o D oL oD gL gD (sm_w7 D am P S U Lg nm Z cq ph th n2 fo rd np pw ev od rc [])) hlt hP6) rfl (fun w h => ⟨gL, by obtain ⟨_, rfl⟩ := h; rfl⟩) (fun v h => ⟨_, (sm_rsv h).2⟩) (fun E h => sm_e2 (sm_rSO _ _ _ _) h)) qyL_switchOver wl_RL_123 ⟨(Nat.le_of_ble_eq_true rfl), (Nat.le_of_ble_eq_true rfl)⟩ rfl hl.1 rfl (Nat.le_of_ble_eq_true rfl) dL_law_345 hf (fun k1 w1 H locs hB1 hP hD hS => ?_)
  obtain ⟨rfl, cp1, gL1, rfl, hg⟩ := sw_bI (K := (sm_kSO P S T ph)) (x := (nI (sm_cnG (fun i => sm_kd T i 1) 40 0 0))) (f := fun (a : sm_Cp) (g : Nat → Int64) => sm_w6 D ad P S T Lg M C a (if sm_kSO P S T ph = 0 then 116 else ph) fo ne no rc (sw_o D oL oD g gD (sm_w7 D am P S U Lg nm Z cq ph th n2 fo rd np pw ev od rc []))) (g0 := gL) (fun _ _ _ => rfl) (fun w h => h) (sm_h2 sw_dSU (sm_rSO _ _ _ _) hB1)
  refine lv_istore (lv' := [(6, .int (sm_kSO P S T ph)), (0, .ref b), (1, .ref (ad 0)), (2, .ref (am 0)), (3, .ref oL), (4, .ref oD), (5, .int (nI i))]) hx hb dL_law_348 hl (by decide) rfl (fun ls hl => ?_)
  have hP := sw_tP hP
  have hD := sw_tD hD
  refine lv_aload_n hx hb dL_law_350 rfl (lv_at hl 3 rfl) ?_
  refine sm_cVCr (rest := []) hC hK hP hD hS hZ (c_X7_switchOver D am P S U Lg nm Z cq ph th n2 fo rd np pw ev od rc _ hP6 hOK) qyX7_switchOver wl_RL_125 ⟨(Nat.le_of_ble_eq_true rfl), (Nat.le_of_ble_eq_true rfl)⟩ 0 rfl rfl rfl hl.1 rfl (Nat.le_of_ble_eq_true rfl) dL_law_351 hf (fun w1 H locs hB1 hP hD hS => ?_)
  obtain ⟨cq1, rfl⟩ := hB1
  obtain ⟨q1, q2, q3, q4⟩ := sw_m4 hR
  exact sw_tI hC hK hP (c_X7_thrown _ _ _ _ _ _ _ _ _ _ _ _ _ _ _ _ _ _ _ _) rfl (q1) 53 rfl hg (q2) hl hf (by decide) dL_law_354 dL_law_356 dL_law_357 dL_law_360 dL_law_362 dL_law_367 dL_law_369 dL_law_372 dL_law_373 dL_law_374 dL_law_375 dL_law_377 dL_law_378 dL_law_379 dL_law_384 (fun ls hl => go _ _ _ (sw_mk (q3) hP hD hS hl (rfl) (rfl) (rfl) (q4) (rfl) (rfl)))
set_option maxRecDepth 100000 in
theorem sw_c_goBack {p : Program} {l : Launch} {e : Env} {s : State} {m : MethodId} {below : List Frame} {meth : Method} {c : Code} {H : Heap} {locs : List Loc} {cells slots : Nat} {Q : State → Prop} {ls : Array Slot} {D : sm_G} {b L i : Nat} {xs : Nat → Int32} {ad am : Nat → Nat} {oL oD : Nat} (X : sw_X p l s m meth c b L xs D) (hi : i + 4 ≤ L) (hI : sw_I s D b ad am oL oD (nI i) ls H locs) (hf : cells + 1 ≤ room_1.cells ∧ slots + 6 ≤ room_1.slots) (go : ∀ (H : Heap) (locs : List Loc) (ls : Array Slot), sw_I s D b ad am oL oD (nI i) ls H locs → W p l e room_1 s m #[Value.ref b] below meth c H locs (cells + 1) (slots + 6) Q (F0 m 1616 ls [])) : W p l e room_1 s m #[Value.ref b] below meth c H locs cells slots Q (F0 m 387 ls []) := by
  obtain ⟨hC, hK, hZ, hlt, hX, hbl, hL⟩ := id X
  obtain ⟨hx, hb, hml, hrt, hown, hlk, hts⟩ := id hC
  obtain ⟨P, S, T, Lg, M, C, cp, ph, fo, ne, no, rc, U, nm, Z, cq, th, n2, rd, np, pw, ev, od, gL, gD, hR, hP, hD, hS, hl⟩ := hI
  obtain ⟨⟨hP6, hOK⟩, hph, ⟨hL1, hLk, hfo⟩, ⟨hM1, hMk, hn2, hnR⟩, ⟨hT, hB⟩, ⟨hne, hno⟩, ⟨hrd, hnp, hpw, hpR⟩⟩ := id hR
  have hf0 : cells ≤ room_1.cells ∧ slots ≤ room_1.slots := ⟨Nat.le_of_succ_le hf.1, Nat.le_trans (Nat.le_add_right _ _) hf.2⟩
  have hTk : ∀ k, sm_kv (U.1 k) := fun k => by rw [← hT.1]; exact hB.1 k
  have hC40 : C.2.2.2.2.2.2.2 ≤ 40 := hpR.1.2
  have hcx : C.2.2.2.2.2.1 ≤ C.2.2.2.2.2.2.2 := hpR.1.1
  have hw8 : C.2.2.2.2.2.2.1 ≤ 8 := sm_pR8 hpR
  have hwt : C.2.2.2.2.2.2.1 ≤ 40 := Nat.le_trans hw8 (by decide)
  have hrd40 : rd ≤ 40 := by rw [hrd]; exact hC40
  have hpw40 : pw ≤ 40 := by rw [hpw]; exact hwt
  have hn120 : n2 ≤ 120 := by rw [hn2]; exact hM1
  refine lv_aload_n hx hb dL_law_387 rfl (lv_at hl 1 rfl) ?_
  refine lv_aload_n hx hb dL_law_388 rfl (lv_at hl 3 rfl) ?_
  refine sm_cH (rest := []) hC hK hP hD hS hZ (h_goBack (o := oL) (c_X6_goBack D ad P S T Lg M C cp ph fo ne no rc (sw_o D oL oD gL gD (sm_w7 D am P S U Lg nm Z cq ph th n2 fo rd np pw ev od rc [])) hlt hM1 hMk hP6) rfl (fun w h => ⟨gL, by obtain ⟨_, rfl⟩ := h; rfl⟩) (fun v h => ⟨_, (sm_rsv h).2⟩) (fun E h => sm_e2 (sm_rBk _ _ _ _) h)) qyL_goBack wl_RL_126 ⟨(Nat.le_of_ble_eq_true rfl), (Nat.le_of_ble_eq_true rfl)⟩ rfl hl.1 rfl (Nat.le_of_ble_eq_true rfl) dL_law_389 hf (fun k1 w1 H locs hB1 hP hD hS => ?_)
  obtain ⟨rfl, cp1, gL1, rfl, hg⟩ := sw_bI (K := (sm_kBk P T M ph)) (x := (nI (sm_gbG P T M M.1 0 S 0).2)) (f := fun (a : sm_Cp) (g : Nat → Int64) => sm_w6 D ad P (if sm_kBk P T M ph = 0 then (sm_gbG P T M M.1 0 S 0).1 else S) T Lg (if sm_kBk P T M ph = 0 then (0, M.2) else M) C a (if sm_kBk P T M ph = 0 then 98 else ph) fo ne no rc (sw_o D oL oD g gD (sm_w7 D am P S U Lg nm Z cq ph th n2 fo rd np pw ev od rc []))) (g0 := gL) (fun _ _ _ => rfl) (fun w h => h) (sm_h2 sw_dSU (sm_rBk _ _ _ _) hB1)
  refine lv_istore (lv' := [(6, .int (sm_kBk P T M ph)), (0, .ref b), (1, .ref (ad 0)), (2, .ref (am 0)), (3, .ref oL), (4, .ref oD), (5, .int (nI i))]) hx hb dL_law_392 hl (by decide) rfl (fun ls hl => ?_)
  have hP := sw_tP hP
  have hD := sw_tD hD
  refine lv_aload_n hx hb dL_law_394 rfl (lv_at hl 3 rfl) ?_
  refine sm_cVCr (rest := []) hC hK hP hD hS hZ (c_X7_goBack D am P S U Lg nm Z cq ph th n2 fo rd np pw ev od rc _ hn120 hP6 hOK) qyX7_goBack wl_RL_128 ⟨(Nat.le_of_ble_eq_true rfl), (Nat.le_of_ble_eq_true rfl)⟩ 0 rfl rfl rfl hl.1 rfl (Nat.le_of_ble_eq_true rfl) dL_law_395 hf (fun w1 H locs hB1 hP hD hS => ?_)
  obtain ⟨cq1, rfl⟩ := hB1
  obtain ⟨q1, q2, q3, q4, q5⟩ := sw_m5 hR
  exact sw_tI hC hK hP (c_X7_thrown _ _ _ _ _ _ _ _ _ _ _ _ _ _ _ _ _ _ _ _) rfl (q1) 53 rfl hg (q2) hl hf (by decide) dL_law_398 dL_law_400 dL_law_401 dL_law_404 dL_law_406 dL_law_411 dL_law_413 dL_law_416 dL_law_417 dL_law_418 dL_law_419 dL_law_421 dL_law_422 dL_law_423 dL_law_428 (fun ls hl => go _ _ _ (sw_mk (q3) hP hD hS hl (rfl) (q4) (rfl) (q5) (rfl) (rfl)))
set_option maxRecDepth 100000 in
theorem sw_c_end {p : Program} {l : Launch} {e : Env} {s : State} {m : MethodId} {below : List Frame} {meth : Method} {c : Code} {H : Heap} {locs : List Loc} {cells slots : Nat} {Q : State → Prop} {ls : Array Slot} {D : sm_G} {b L i : Nat} {xs : Nat → Int32} {ad am : Nat → Nat} {oL oD : Nat} (X : sw_X p l s m meth c b L xs D) (hi : i + 4 ≤ L) (hI : sw_I s D b ad am oL oD (nI i) ls H locs) (hf : cells + 1 ≤ room_1.cells ∧ slots + 6 ≤ room_1.slots) (go : ∀ (H : Heap) (locs : List Loc) (ls : Array Slot), sw_I s D b ad am oL oD (nI i) ls H locs → W p l e room_1 s m #[Value.ref b] below meth c H locs (cells + 1) (slots + 6) Q (F0 m 1616 ls [])) : W p l e room_1 s m #[Value.ref b] below meth c H locs cells slots Q (F0 m 431 ls []) := by
  obtain ⟨hC, hK, hZ, hlt, hX, hbl, hL⟩ := id X
  obtain ⟨hx, hb, hml, hrt, hown, hlk, hts⟩ := id hC
  obtain ⟨P, S, T, Lg, M, C, cp, ph, fo, ne, no, rc, U, nm, Z, cq, th, n2, rd, np, pw, ev, od, gL, gD, hR, hP, hD, hS, hl⟩ := hI
  obtain ⟨⟨hP6, hOK⟩, hph, ⟨hL1, hLk, hfo⟩, ⟨hM1, hMk, hn2, hnR⟩, ⟨hT, hB⟩, ⟨hne, hno⟩, ⟨hrd, hnp, hpw, hpR⟩⟩ := id hR
  have hf0 : cells ≤ room_1.cells ∧ slots ≤ room_1.slots := ⟨Nat.le_of_succ_le hf.1, Nat.le_trans (Nat.le_add_right _ _) hf.2⟩
  have hTk : ∀ k, sm_kv (U.1 k) := fun k => by rw [← hT.1]; exact hB.1 k
  have hC40 : C.2.2.2.2.2.2.2 ≤ 40 := hpR.1.2
  have hcx : C.2.2.2.2.2.1 ≤ C.2.2.2.2.2.2.2 := hpR.1.1
  have hw8 : C.2.2.2.2.2.2.1 ≤ 8 := sm_pR8 hpR
  have hwt : C.2.2.2.2.2.2.1 ≤ 40 := Nat.le_trans hw8 (by decide)
  have hrd40 : rd ≤ 40 := by rw [hrd]; exact hC40
  have hpw40 : pw ≤ 40 := by rw [hpw]; exact hwt
  have hn120 : n2 ≤ 120 := by rw [hn2]; exact hM1
  refine lv_aload_n hx hb dL_law_431 rfl (lv_at hl 1 rfl) ?_
  refine lv_aload_n hx hb dL_law_432 rfl (lv_at hl 3 rfl) ?_
  refine sm_cH (rest := []) hC hK hP hD hS hZ (h_end (o := oL) (c_X6_end D ad P S T Lg M C cp ph fo ne no rc (sw_o D oL oD gL gD (sm_w7 D am P S U Lg nm Z cq ph th n2 fo rd np pw ev od rc [])) hlt) rfl (fun w h => ⟨gL, by rw [h]; rfl⟩) (fun v h => ⟨_, (sm_rsv h).2⟩) (fun E h => sm_e1 (sm_rPh _ _) h)) qyL_end wl_RL_129 ⟨(Nat.le_of_ble_eq_true rfl), (Nat.le_of_ble_eq_true rfl)⟩ rfl hl.1 rfl (Nat.le_of_ble_eq_true rfl) dL_law_433 hf (fun k1 w1 H locs hB1 hP hD hS => ?_)
  obtain ⟨rfl, cp1, gL1, rfl, hg⟩ := sw_bI (K := (sm_kPh 116 ph)) (x := (nI M.1)) (f := fun (a : sm_Cp) (g : Nat → Int64) => sm_w6 D ad P S T Lg M C a (if sm_kPh 116 ph = 0 then 100 else ph) fo ne no rc (sw_o D oL oD g gD (sm_w7 D am P S U Lg nm Z cq ph th n2 fo rd np pw ev od rc []))) (g0 := gL) (fun _ _ _ => rfl) (fun w h => ⟨cp, h⟩) (sm_h1 (sm_rPh _ _) hB1)
  refine lv_istore (lv' := [(6, .int (sm_kPh 116 ph)), (0, .ref b), (1, .ref (ad 0)), (2, .ref (am 0)), (3, .ref oL), (4, .ref oD), (5, .int (nI i))]) hx hb dL_law_436 hl (by decide) rfl (fun ls hl => ?_)
  have hP := sw_tP hP
  have hD := sw_tD hD
  refine lv_aload_n hx hb dL_law_438 rfl (lv_at hl 3 rfl) ?_
  refine sm_cVCr (rest := []) hC hK hP hD hS hZ (c_X7_end D am P S U Lg nm Z cq ph th n2 fo rd np pw ev od rc _) qyX7_end wl_RL_131 ⟨(Nat.le_of_ble_eq_true rfl), (Nat.le_of_ble_eq_true rfl)⟩ 0 rfl rfl rfl hl.1 rfl (Nat.le_of_ble_eq_true rfl) dL_law_439 hf (fun w1 H locs hB1 hP hD hS => ?_)
  obtain rfl := hB1
  exact sw_tI hC hK hP (c_X7_thrown _ _ _ _ _ _ _ _ _ _ _ _ _ _ _ _ _ _ _ _) rfl (rfl) 53 rfl hg (fun z => (if_pos z).trans (congrArg nI hn2)) hl hf (by decide) dL_law_442 dL_law_444 dL_law_445 dL_law_448 dL_law_450 dL_law_455 dL_law_457 dL_law_460 dL_law_461 dL_law_462 dL_law_463 dL_law_465 dL_law_466 dL_law_467 dL_law_472 (fun ls hl => go _ _ _ (sw_mk (sm_RlPh (Or.inr (Or.inr (Or.inr (Or.inr rfl)))) hR) hP hD hS hl (rfl) (rfl) (rfl) (rfl) (rfl) (rfl)))
