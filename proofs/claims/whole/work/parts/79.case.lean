/-! the cases of the law, 5: the figures -/
set_option maxRecDepth 100000 in
theorem sw_c_movedShare {p : Program} {l : Launch} {e : Env} {s : State} {m : MethodId} {below : List Frame} {meth : Method} {c : Code} {H : Heap} {locs : List Loc} {cells slots : Nat} {Q : State → Prop} {ls : Array Slot} {D : sm_G} {b L i : Nat} {xs : Nat → Int32} {ad am : Nat → Nat} {oL oD : Nat} (X : sw_X p l s m meth c b L xs D) (hi : i + 4 ≤ L) (hI : sw_I s D b ad am oL oD (nI i) ls H locs) (hf : cells + 1 ≤ room_1.cells ∧ slots + 6 ≤ room_1.slots) (go : ∀ (H : Heap) (locs : List Loc) (ls : Array Slot), sw_I s D b ad am oL oD (nI i) ls H locs → W p l e room_1 s m #[Value.ref b] below meth c H locs (cells + 1) (slots + 6) Q (F0 m 1616 ls [])) : W p l e room_1 s m #[Value.ref b] below meth c H locs cells slots Q (F0 m 1472 ls []) := by
  obtain ⟨hC, hK, hZ, hlt, hX, hbl, hL⟩ := id X
  obtain ⟨hx, hb, hml, hrt, hown, hlk, hts⟩ := id hC
  obtain ⟨P, S, T, Lg, M, C, cp, ph, fo, ne, no, rc, U, nm, Z, cq, th, n2, rd, np, pw, ev, od, gL, gD, hR, hP, hD, hS, hl⟩ := hI
  obtain ⟨⟨hP6, hOK⟩, hph, ⟨hL1, hLk, hfo⟩, ⟨hM1, hMk, hn2, hnR⟩, ⟨hT, hB⟩, ⟨hne, hno⟩, ⟨hrd, hnp, hpw, hpR⟩⟩ := id hR
  have hf0 : cells ≤ room_1.cells ∧ slots ≤ room_1.slots := ⟨Nat.le_of_succ_le hf.1, Nat.le_trans (Nat.le_add_right _ _) hf.2⟩
  have hTk : ∀ k, sm_kv (U.1 k) := fun k => by rw [← hT.1]; exact hB.1 k
  have hC40 : C.2.2.2.2.2.2.2 ≤ 40 := hpR.1.2
  have hcx : C.2.2.2.2.2.1 ≤ C.2.2.2.2.2.2.2 := hpR.1.1
  have hw8 : C.2.2.2.2.2.2.1 ≤ 8 := sm_pR8 hpR
  have hwt : C.2.2.2.2.2.2.1 ≤ 40 := Nat.le_trans hw8 (by decide)
  have hrd40 : rd ≤ 40 := by rw [hrd]; exact hC40
  have hpw40 : pw ≤ 40 := by rw [hpw]; exact hwt
  have hn120 : n2 ≤ 120 := by rw [hn2]; exact hM1
  have hc1 : (sm_cnG (fun i => decide (sm_stF P S T i = 101)) 40 0 0) ≤ 40 := sm_cnle _ 40 0 0
  have hc2 : (sm_cnG S.1 40 0 0) ≤ 40 := sm_cnle _ 40 0 0
  refine lv_aload_n hx hb dL_law_1472 rfl (lv_at hl 1 rfl) ?_
  refine lv_aload hx hb dL_law_1473 (lv_at hl 4 rfl) ?_
  refine sm_cH (rest := []) hC hK hP hD hS hZ (h_movedShare (o := oD) (c_X6_movedShare D ad P S T Lg M C cp ph fo ne no rc (sw_o D oL oD gL gD (sm_w7 D am P S U Lg nm Z cq ph th n2 fo rd np pw ev od rc [])) hlt hP6) rfl (fun w h => ⟨gD, by obtain ⟨_, rfl⟩ := h; rfl⟩) (fun v h => ⟨_, (sm_rsv h).2, sm_fq2 hc1 hc2 (sw_nz (sw_k1t (sm_rsv h).1))⟩) (fun E h => sm_e1 (sm_r1 _) h)) qyL_movedShare wl_RL_195 ⟨(Nat.le_of_ble_eq_true rfl), (Nat.le_of_ble_eq_true rfl)⟩ rfl hl.1 rfl (Nat.le_of_ble_eq_true rfl) dL_law_1475 hf (fun k1 w1 H locs hB1 hP hD hS => ?_)
  obtain ⟨rfl, cp1, gD1, rfl, hg⟩ := sw_bF (K := (sm_k1 (sm_nz (sm_cnG S.1 40 0 0)))) (x := (FP.fdiv (FP.i2f (nI (sm_cnG (fun i => decide (sm_stF P S T i = 101)) 40 0 0))) (FP.i2f (nI (sm_cnG S.1 40 0 0))))) (f := fun (a : sm_Cp) (g : Nat → UInt64) => sm_w6 D ad P S T Lg M C a ph fo ne no rc (sw_o D oL oD gL g (sm_w7 D am P S U Lg nm Z cq ph th n2 fo rd np pw ev od rc []))) (g0 := gD) (fun _ _ _ => rfl) (fun w h => h) (sm_h1 (sm_r1 _) hB1)
  refine lv_istore (lv' := [(6, .int (sm_k1 (sm_nz (sm_cnG S.1 40 0 0)))), (0, .ref b), (1, .ref (ad 0)), (2, .ref (am 0)), (3, .ref oL), (4, .ref oD), (5, .int (nI i))]) hx hb dL_law_1478 hl (by decide) rfl (fun ls hl => ?_)
  have hP := sw_tP hP
  have hD := sw_tD hD
  refine lv_aload_n hx hb dL_law_1480 rfl (lv_at hl 3 rfl) ?_
  refine sm_cVCr (rest := []) hC hK hP hD hS hZ (c_X7_movedShare D am P S U Lg nm Z cq ph th n2 fo rd np pw ev od rc _ hP6 hOK) qyX7_movedShare wl_RL_198 ⟨(Nat.le_of_ble_eq_true rfl), (Nat.le_of_ble_eq_true rfl)⟩ 0 rfl rfl rfl hl.1 rfl (Nat.le_of_ble_eq_true rfl) dL_law_1481 hf (fun w1 H locs hB1 hP hD hS => ?_)
  obtain ⟨cq1, rfl⟩ := hB1
  have hxy : sm_k1 (sm_nz (sm_cnG S.1 40 0 0)) = 0 → (if sm_nz (sm_cnG S.1 40 0 0) = true then FP.fdiv (FP.i2f (nI (sm_cnG (fun i => decide (sm_stF P S U i = 101)) 40 0 0))) (FP.i2f (nI (sm_cnG S.1 40 0 0))) else FP.fconst0) = (FP.fdiv (FP.i2f (nI (sm_cnG (fun i => decide (sm_stF P S T i = 101)) 40 0 0))) (FP.i2f (nI (sm_cnG S.1 40 0 0)))) := fun z => by rw [if_pos (sw_k1t z), sm_mvE hT]
  have hn64 : sm_k1 (sm_nz (sm_cnG S.1 40 0 0)) = 0 → vf_n64 (FP.f2d (if sm_nz (sm_cnG S.1 40 0 0) = true then FP.fdiv (FP.i2f (nI (sm_cnG (fun i => decide (sm_stF P S U i = 101)) 40 0 0))) (FP.i2f (nI (sm_cnG S.1 40 0 0))) else FP.fconst0)) := fun z => by rw [hxy z]; exact sm_fq2 hc1 hc2 (sw_nz (sw_k1t z))
  have hself : sm_k1 (sm_nz (sm_cnG S.1 40 0 0)) = 0 → Op.cmpValue (FP.dcmp (gD1 0) (FP.f2d (if sm_nz (sm_cnG S.1 40 0 0) = true then FP.fdiv (FP.i2f (nI (sm_cnG (fun i => decide (sm_stF P S U i = 101)) 40 0 0))) (FP.i2f (nI (sm_cnG S.1 40 0 0))) else FP.fconst0))) .l = 0 := fun z => by rw [hg z, hxy z, sw_fq hc1 hc2 (sw_nz (sw_k1t z))]; rfl
  have kk : ∀ (ls : Array Slot), lv_has ls 9 [(0, .ref b), (1, .ref (ad 0)), (2, .ref (am 0)), (3, .ref oL), (4, .ref oD), (5, .int (nI i))] → W p l e room_1 s m #[Value.ref b] below meth c H locs (cells + 1) (slots + 6) Q (F0 m 1616 ls []) := fun ls hl => go _ _ _ (sw_mk hR hP hD hS hl rfl rfl rfl rfl rfl rfl)
  generalize hyd : (if sm_nz (sm_cnG S.1 40 0 0) = true then FP.fdiv (FP.i2f (nI (sm_cnG (fun i => decide (sm_stF P S U i = 101)) 40 0 0))) (FP.i2f (nI (sm_cnG S.1 40 0 0))) else FP.fconst0) = y at hxy hn64 hself ⊢
  refine lv_fstore (lv' := [(7, .float y), (6, .int (sm_k1 (sm_nz (sm_cnG S.1 40 0 0)))), (0, .ref b), (1, .ref (ad 0)), (2, .ref (am 0)), (3, .ref oL), (4, .ref oD), (5, .int (nI i))]) hx hb dL_law_1484 hl (by decide) rfl (fun ls hl => ?_)
  refine lv_aload_n hx hb dL_law_1486 rfl (lv_at hl 4 rfl) ?_
  refine sm_cVPr (rest := []) hC hK hP (c_X7_thrown _ _ _ _ _ _ _ _ _ _ _ _ _ _ _ _ _ _ _ _) qyX7_thrown wl_RL_108 ⟨(Nat.le_of_ble_eq_true rfl), (Nat.le_of_ble_eq_true rfl)⟩ 0 rfl rfl rfl hl.1 rfl (Nat.le_of_ble_eq_true rfl) dL_law_1487 hf ?_
  refine lv_iload hx hb dL_law_1490 (lv_at hl 1 rfl) ?_
  refine lv_icmp_eq (tgt := 1497) hx hb dL_law_1492 (by decide) (fun _ => ?_) (fun z => absurd (rfl) z)
  refine lv_iload hx hb dL_law_1497 (lv_at hl 1 rfl) ?_
  refine lv_if_ne (tgt := 1535) hx hb dL_law_1499 (by decide) (fun hk => ?_) (fun hk => ?_)
  · exact lv_goto (tgt := 1616) hx hb dL_law_1535 (by decide) (kk ls (lv_sub hl [2, 3, 4, 5, 6, 7] rfl))
  · have hgk := hg hk
    have hxk := hxy hk
    refine lv_aload hx hb dL_law_1502 (lv_at hl 6 rfl) ?_
    refine lv_iconst (v := 0) hx hb dL_law_1504 (by decide) ?_
    refine sm_dld hx hb hK hP 54 rfl 0 rfl (by decide) (by decide) dL_law_1505 ?_
    refine lv_fload hx hb dL_law_1506 (lv_at hl 0 rfl) ?_
    refine lv_f2d hx hb dL_law_1508 (hn64 hk) ?_
    refine lv_dcmp hx hb dL_law_1509 ?_
    refine lv_if_eq (tgt := 1535) hx hb dL_law_1510 (by decide) (fun _ => ?_) (fun hn => ?_)
    · exact lv_goto (tgt := 1616) hx hb dL_law_1535 (by decide) (kk ls (lv_sub hl [2, 3, 4, 5, 6, 7] rfl))
    · exact absurd (hself hk) hn
set_option maxRecDepth 100000 in
theorem sw_c_meanStamp {p : Program} {l : Launch} {e : Env} {s : State} {m : MethodId} {below : List Frame} {meth : Method} {c : Code} {H : Heap} {locs : List Loc} {cells slots : Nat} {Q : State → Prop} {ls : Array Slot} {D : sm_G} {b L i : Nat} {xs : Nat → Int32} {ad am : Nat → Nat} {oL oD : Nat} (X : sw_X p l s m meth c b L xs D) (hi : i + 4 ≤ L) (hI : sw_I s D b ad am oL oD (nI i) ls H locs) (hf : cells + 1 ≤ room_1.cells ∧ slots + 6 ≤ room_1.slots) (go : ∀ (H : Heap) (locs : List Loc) (ls : Array Slot), sw_I s D b ad am oL oD (nI i) ls H locs → W p l e room_1 s m #[Value.ref b] below meth c H locs (cells + 1) (slots + 6) Q (F0 m 1616 ls [])) : W p l e room_1 s m #[Value.ref b] below meth c H locs cells slots Q (F0 m 1551 ls []) := by
  obtain ⟨hC, hK, hZ, hlt, hX, hbl, hL⟩ := id X
  obtain ⟨hx, hb, hml, hrt, hown, hlk, hts⟩ := id hC
  obtain ⟨P, S, T, Lg, M, C, cp, ph, fo, ne, no, rc, U, nm, Z, cq, th, n2, rd, np, pw, ev, od, gL, gD, hR, hP, hD, hS, hl⟩ := hI
  obtain ⟨⟨hP6, hOK⟩, hph, ⟨hL1, hLk, hfo⟩, ⟨hM1, hMk, hn2, hnR⟩, ⟨hT, hB⟩, ⟨hne, hno⟩, ⟨hrd, hnp, hpw, hpR⟩⟩ := id hR
  have hf0 : cells ≤ room_1.cells ∧ slots ≤ room_1.slots := ⟨Nat.le_of_succ_le hf.1, Nat.le_trans (Nat.le_add_right _ _) hf.2⟩
  have hTk : ∀ k, sm_kv (U.1 k) := fun k => by rw [← hT.1]; exact hB.1 k
  have hC40 : C.2.2.2.2.2.2.2 ≤ 40 := hpR.1.2
  have hcx : C.2.2.2.2.2.1 ≤ C.2.2.2.2.2.2.2 := hpR.1.1
  have hw8 : C.2.2.2.2.2.2.1 ≤ 8 := sm_pR8 hpR
  have hwt : C.2.2.2.2.2.2.1 ≤ 40 := Nat.le_trans hw8 (by decide)
  have hrd40 : rd ≤ 40 := by rw [hrd]; exact hC40
  have hpw40 : pw ≤ 40 := by rw [hpw]; exact hwt
  have hn120 : n2 ≤ 120 := by rw [hn2]; exact hM1
  obtain ⟨sv, hs1, hs2, hs3⟩ := sm_sv hT hB
  refine lv_aload_n hx hb dL_law_1551 rfl (lv_at hl 1 rfl) ?_
  refine lv_aload hx hb dL_law_1552 (lv_at hl 4 rfl) ?_
  refine sm_cH (rest := []) hC hK hP hD hS hZ (h_meanStamp (o := oD) (c_X6_meanStamp D ad P S T Lg M C cp ph fo ne no rc (sw_o D oL oD gL gD (sm_w7 D am P S U Lg nm Z cq ph th n2 fo rd np pw ev od rc [])) hlt sv hs1 hs3) rfl (fun w h => ⟨gD, by rw [h]; rfl⟩) (fun v h => ⟨_, (sm_rsv h).2⟩) (fun E h => sm_e1 (sm_r1 _) h)) qyL_meanStamp wl_RL_204 ⟨(Nat.le_of_ble_eq_true rfl), (Nat.le_of_ble_eq_true rfl)⟩ rfl hl.1 rfl (Nat.le_of_ble_eq_true rfl) dL_law_1554 hf (fun k1 w1 H locs hB1 hP hD hS => ?_)
  obtain ⟨rfl, cp1, gD1, rfl, hg⟩ := sw_bD2 (K := (sm_k1 (sm_nz (sm_cnG (fun i => sm_kd T i 1) 40 0 0)))) (x := (FP.ddiv (FP.i2d (nI sv)) (FP.i2d (nI (sm_cnG (fun i => sm_kd T i 1) 40 0 0))))) (f := fun (a : sm_Cp) (g : Nat → UInt64) => sm_w6 D ad P S T Lg M C a ph fo ne no rc (sw_o D oL oD gL g (sm_w7 D am P S U Lg nm Z cq ph th n2 fo rd np pw ev od rc []))) (g0 := gD) (fun _ _ _ => rfl) (fun w h => ⟨cp, h⟩) (sm_h1 (sm_r1 _) hB1)
  refine lv_istore (lv' := [(6, .int (sm_k1 (sm_nz (sm_cnG (fun i => sm_kd T i 1) 40 0 0)))), (0, .ref b), (1, .ref (ad 0)), (2, .ref (am 0)), (3, .ref oL), (4, .ref oD), (5, .int (nI i))]) hx hb dL_law_1557 hl (by decide) rfl (fun ls hl => ?_)
  have hP := sw_tP hP
  have hD := sw_tD hD
  refine lv_aload_n hx hb dL_law_1559 rfl (lv_at hl 3 rfl) ?_
  refine sm_cVCr (rest := []) hC hK hP hD hS hZ (c_X7_meanStamp D am P S U Lg nm Z cq ph th n2 fo rd np pw ev od rc _ sv hs2 (by rw [sm_cnE hT]; exact hs3)) qyX7_meanStamp wl_RL_206 ⟨(Nat.le_of_ble_eq_true rfl), (Nat.le_of_ble_eq_true rfl)⟩ 0 rfl rfl rfl hl.1 rfl (Nat.le_of_ble_eq_true rfl) dL_law_1560 hf (fun w1 H locs hB1 hP hD hS => ?_)
  obtain rfl := hB1
  have hxy : sm_k1 (sm_nz (sm_cnG (fun i => sm_kd T i 1) 40 0 0)) = 0 → (if sm_nz (sm_cnG (fun i => sm_kd U i 1) 40 0 0) = true then FP.ddiv (FP.i2d (nI sv)) (FP.i2d (nI (sm_cnG (fun i => sm_kd U i 1) 40 0 0))) else FP.dconst0) = (FP.ddiv (FP.i2d (nI sv)) (FP.i2d (nI (sm_cnG (fun i => sm_kd T i 1) 40 0 0)))) := fun z => by rw [sm_cnE hT, if_pos (sw_k1t z)]
  have kk : ∀ (ls : Array Slot), lv_has ls 9 [(0, .ref b), (1, .ref (ad 0)), (2, .ref (am 0)), (3, .ref oL), (4, .ref oD), (5, .int (nI i))] → W p l e room_1 s m #[Value.ref b] below meth c H locs (cells + 1) (slots + 6) Q (F0 m 1616 ls []) := fun ls hl => go _ _ _ (sw_mk hR hP hD hS hl rfl rfl rfl rfl rfl rfl)
  generalize hyd : (if sm_nz (sm_cnG (fun i => sm_kd U i 1) 40 0 0) = true then FP.ddiv (FP.i2d (nI sv)) (FP.i2d (nI (sm_cnG (fun i => sm_kd U i 1) 40 0 0))) else FP.dconst0) = y at hxy ⊢
  refine lv_dstore (lv' := [(7, .double y), (6, .int (sm_k1 (sm_nz (sm_cnG (fun i => sm_kd T i 1) 40 0 0)))), (0, .ref b), (1, .ref (ad 0)), (2, .ref (am 0)), (3, .ref oL), (4, .ref oD), (5, .int (nI i))]) hx hb dL_law_1563 hl (by decide) rfl (fun ls hl => ?_)
  refine lv_aload_n hx hb dL_law_1565 rfl (lv_at hl 4 rfl) ?_
  refine sm_cVPr (rest := []) hC hK hP (c_X7_thrown _ _ _ _ _ _ _ _ _ _ _ _ _ _ _ _ _ _ _ _) qyX7_thrown wl_RL_108 ⟨(Nat.le_of_ble_eq_true rfl), (Nat.le_of_ble_eq_true rfl)⟩ 0 rfl rfl rfl hl.1 rfl (Nat.le_of_ble_eq_true rfl) dL_law_1566 hf ?_
  refine lv_iload hx hb dL_law_1569 (lv_at hl 1 rfl) ?_
  refine lv_icmp_eq (tgt := 1576) hx hb dL_law_1571 (by decide) (fun _ => ?_) (fun z => absurd (by rw [sm_cnE hT]) z)
  refine lv_iload hx hb dL_law_1576 (lv_at hl 1 rfl) ?_
  refine lv_if_ne (tgt := 1613) hx hb dL_law_1578 (by decide) (fun hk => ?_) (fun hk => ?_)
  · exact lv_goto (tgt := 1616) hx hb dL_law_1613 (by decide) (kk ls (lv_sub hl [2, 3, 4, 5, 6, 7] rfl))
  · have hgk := hg hk
    have hxk := hxy hk
    refine lv_aload hx hb dL_law_1581 (lv_at hl 6 rfl) ?_
    refine lv_iconst (v := 0) hx hb dL_law_1583 (by decide) ?_
    refine sm_dld hx hb hK hP 54 rfl 0 rfl (by decide) (by decide) dL_law_1584 ?_
    refine lv_dload hx hb dL_law_1585 (lv_at hl 0 rfl) ?_
    refine lv_dcmp hx hb dL_law_1587 ?_
    refine lv_if_eq (tgt := 1613) hx hb dL_law_1588 (by decide) (fun _ => ?_) (fun hn => ?_)
    · exact lv_goto (tgt := 1616) hx hb dL_law_1613 (by decide) (kk ls (lv_sub hl [2, 3, 4, 5, 6, 7] rfl))
    · rw [hgk, hxk] at hn
      refine lv_aload hx hb dL_law_1591 (lv_at hl 6 rfl) ?_
      refine lv_iconst (v := 0) hx hb dL_law_1593 (by decide) ?_
      refine sm_dld hx hb hK hP 54 rfl 0 rfl (by decide) (by decide) dL_law_1594 ?_
      refine lv_aload hx hb dL_law_1595 (lv_at hl 6 rfl) ?_
      refine lv_iconst (v := 0) hx hb dL_law_1597 (by decide) ?_
      refine sm_dld hx hb hK hP 54 rfl 0 rfl (by decide) (by decide) dL_law_1598 ?_
      refine lv_dcmp hx hb dL_law_1599 ?_
      refine lv_if_eq (tgt := 1611) hx hb dL_law_1600 (by decide) (fun h0 => absurd (by rw [hgk] at h0; exact h0) hn) (fun _ => ?_)
      refine lv_dload hx hb dL_law_1603 (lv_at hl 0 rfl) ?_
      refine lv_dload hx hb dL_law_1605 (lv_at hl 0 rfl) ?_
      refine lv_dcmp hx hb dL_law_1607 ?_
      refine lv_if_ne (tgt := 1613) hx hb dL_law_1608 (by decide) (fun _ => ?_) (fun h0 => absurd (by rw [hxk] at h0; exact h0) hn)
      exact lv_goto (tgt := 1616) hx hb dL_law_1613 (by decide) (kk ls (lv_sub hl [2, 3, 4, 5, 6, 7] rfl))
