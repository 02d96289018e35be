/-! the cases of the law, 2 -/
set_option maxRecDepth 100000 in
theorem sw_c_write_i {p : Program} {l : Launch} {e : Env} {s : State} {m : MethodId} {below : List Frame} {meth : Method} {c : Code} {H : Heap} {locs : List Loc} {cells slots : Nat} {Q : State → Prop} {ls : Array Slot} {D : sm_G} {b L i : Nat} {xs : Nat → Int32} {ad am : Nat → Nat} {oL oD : Nat} (hbk : sm_isKey (xs (i + 1)) = false) (X : sw_X p l s m meth c b L xs D) (hi : i + 4 ≤ L) (hI : sw_I s D b ad am oL oD (nI i) ls H locs) (hf : cells + 1 ≤ room_1.cells ∧ slots + 6 ≤ room_1.slots) (go : ∀ (H : Heap) (locs : List Loc) (ls : Array Slot), sw_I s D b ad am oL oD (nI i) ls H locs → W p l e room_1 s m #[Value.ref b] below meth c H locs (cells + 1) (slots + 6) Q (F0 m 1616 ls [])) : W p l e room_1 s m #[Value.ref b] below meth c H locs cells slots Q (F0 m 475 ls []) := by
  obtain ⟨hC, hK, hZ, hlt, hX, hbl, hL⟩ := id X
  obtain ⟨hx, hb, hml, hrt, hown, hlk, hts⟩ := id hC
  obtain ⟨P, S, T, Lg, M, C, cp, ph, fo, ne, no, rc, U, nm, Z, cq, th, n2, rd, np, pw, ev, od, gL, gD, hR, hP, hD, hS, hl⟩ := hI
  obtain ⟨⟨hP6, hOK⟩, hph, ⟨hL1, hLk, hfo⟩, ⟨hM1, hMk, hn2, hnR⟩, ⟨hT, hB⟩, ⟨hne, hno⟩, ⟨hrd, hnp, hpw, hpR⟩⟩ := id hR
  have hf0 : cells ≤ room_1.cells ∧ slots ≤ room_1.slots := ⟨Nat.le_of_succ_le hf.1, Nat.le_trans (Nat.le_add_right _ _) hf.2⟩
  have hTk : ∀ k, sm_kv (U.1 k) := fun k => by rw [← hT.1]; exact hB.1 k
  have hC40 : C.2.2.2.2.2.2.2 ≤ 40 := hpR.1.2
  have hcx : C.2.2.2.2.2.1 ≤ C.2.2.2.2.2.2.2 := hpR.1.1
  have hw8 : C.2.2.2.2.2.2.1 ≤ 8 := sm_pR8 hpR
  have hwt : C.2.2.2.2.2.2.1 ≤ 40 := Nat.le_trans hw8 (by decide)
  have hrd40 : rd ≤ 40 := by rw [hrd]; exact hC40
  have hpw40 : pw ≤ 40 := by rw [hpw]; exact hwt
  have hn120 : n2 ≤ 120 := by rw [hn2]; exact hM1
  refine lv_aload_n hx hb dL_law_475 rfl (lv_at hl 1 rfl) ?_
  refine sw_arg X hS (i := i) (j := 1) (jI := 1) (by omega) (by decide) hl 0 rfl 5 rfl dL_law_476 dL_law_477 dL_law_479 dL_law_480 dL_law_481 ?_
  refine sw_arg X hS (i := i) (j := 2) (jI := 2) (by omega) (by decide) hl 0 rfl 5 rfl dL_law_482 dL_law_483 dL_law_485 dL_law_486 dL_law_487 ?_
  refine sw_arg X hS (i := i) (j := 3) (jI := 3) (by omega) (by decide) hl 0 rfl 5 rfl dL_law_488 dL_law_489 dL_law_491 dL_law_492 dL_law_493 ?_
  refine lv_aload_n hx hb dL_law_494 rfl (lv_at hl 3 rfl) ?_
  refine sm_cH (rest := []) hC hK hP hD hS hZ (h_write (o := oL) (c_X6_write_i D ad P S T Lg M C cp ph fo ne no rc (sw_o D oL oD gL gD (sm_w7 D am P S U Lg nm Z cq ph th n2 fo rd np pw ev od rc [])) hlt (xs (i + 1)) (xs (i + 2)) (xs (i + 3)) hbk) rfl (fun w h => ⟨gL, by rw [h]; rfl⟩) (fun v h => by cases h) (fun E h => Or.inl (Sum.inl.inj h).symm)) qyL_write wl_RL_132 ⟨(Nat.le_of_ble_eq_true rfl), (Nat.le_of_ble_eq_true rfl)⟩ rfl hl.1 rfl (Nat.le_of_ble_eq_true rfl) dL_law_495 hf (fun k1 w1 H locs hB1 hP hD hS => ?_)
  obtain ⟨rfl, cp1, gL1, rfl, hg⟩ := sw_bZ (K := 1) (x := false) (f := fun (a : sm_Cp) (g : Nat → Int64) => sm_w6 D ad P S T Lg M C a ph fo ne no rc (sw_o D oL oD g gD (sm_w7 D am P S U Lg nm Z cq ph th n2 fo rd np pw ev od rc []))) (g0 := gL) (fun _ _ _ => rfl) (fun w h => ⟨cp, h⟩) (sw_hx (sw_n2 sw_dAS) hB1)
  refine lv_istore (lv' := [(6, .int 1), (0, .ref b), (1, .ref (ad 0)), (2, .ref (am 0)), (3, .ref oL), (4, .ref oD), (5, .int (nI i))]) hx hb dL_law_498 hl (by decide) rfl (fun ls hl => ?_)
  have hP := sw_tP hP
  have hD := sw_tD hD
  refine lv_aload_n hx hb dL_law_500 rfl (lv_at hl 3 rfl) ?_
  refine sw_arg X hS (i := i) (j := 1) (jI := 1) (by omega) (by decide) hl 1 rfl 6 rfl dL_law_501 dL_law_502 dL_law_504 dL_law_505 dL_law_506 ?_
  refine sw_arg X hS (i := i) (j := 2) (jI := 2) (by omega) (by decide) hl 1 rfl 6 rfl dL_law_507 dL_law_508 dL_law_510 dL_law_511 dL_law_512 ?_
  refine sw_arg X hS (i := i) (j := 3) (jI := 3) (by omega) (by decide) hl 1 rfl 6 rfl dL_law_513 dL_law_514 dL_law_516 dL_law_517 dL_law_518 ?_
  refine sm_cVCr (rest := []) hC hK hP hD hS hZ (c_X7_write_i D am P S U Lg nm Z cq ph th n2 fo rd np pw ev od rc _ (xs (i + 1)) (xs (i + 2)) (xs (i + 3)) hbk) qyX7_write wl_RL_135 ⟨(Nat.le_of_ble_eq_true rfl), (Nat.le_of_ble_eq_true rfl)⟩ 0 rfl rfl rfl hl.1 rfl (Nat.le_of_ble_eq_true rfl) dL_law_519 hf (fun w1 H locs hB1 hP hD hS => ?_)
  obtain rfl := hB1
  exact sw_tZ hC hK hP (c_X7_thrown _ _ _ _ _ _ _ _ _ _ _ _ _ _ _ _ _ _ _ _) rfl (rfl) 53 rfl (y := false) hg (fun z => absurd z (by decide)) hl hf (by decide) dL_law_522 dL_law_524 dL_law_525 dL_law_528 dL_law_530 dL_law_535 dL_law_537 dL_law_540 dL_law_541 dL_law_542 dL_law_543 dL_law_545 dL_law_548 dL_law_549 dL_law_552 dL_law_553 dL_law_554 dL_law_559 (fun ls hl => go _ _ _ (sw_mk (hR) hP hD hS hl (rfl) (rfl) (rfl) (rfl) (rfl) (rfl)))
set_option maxRecDepth 100000 in
theorem sw_c_write {p : Program} {l : Launch} {e : Env} {s : State} {m : MethodId} {below : List Frame} {meth : Method} {c : Code} {H : Heap} {locs : List Loc} {cells slots : Nat} {Q : State → Prop} {ls : Array Slot} {D : sm_G} {b L i : Nat} {xs : Nat → Int32} {ad am : Nat → Nat} {oL oD : Nat} {k : Nat} (hk : k < 40) (e1 : xs (i + 1) = nI k) (X : sw_X p l s m meth c b L xs D) (hi : i + 4 ≤ L) (hI : sw_I s D b ad am oL oD (nI i) ls H locs) (hf : cells + 1 ≤ room_1.cells ∧ slots + 6 ≤ room_1.slots) (go : ∀ (H : Heap) (locs : List Loc) (ls : Array Slot), sw_I s D b ad am oL oD (nI i) ls H locs → W p l e room_1 s m #[Value.ref b] below meth c H locs (cells + 1) (slots + 6) Q (F0 m 1616 ls [])) : W p l e room_1 s m #[Value.ref b] below meth c H locs cells slots Q (F0 m 475 ls []) := by
  obtain ⟨hC, hK, hZ, hlt, hX, hbl, hL⟩ := id X
  obtain ⟨hx, hb, hml, hrt, hown, hlk, hts⟩ := id hC
  obtain ⟨P, S, T, Lg, M, C, cp, ph, fo, ne, no, rc, U, nm, Z, cq, th, n2, rd, np, pw, ev, od, gL, gD, hR, hP, hD, hS, hl⟩ := hI
  obtain ⟨⟨hP6, hOK⟩, hph, ⟨hL1, hLk, hfo⟩, ⟨hM1, hMk, hn2, hnR⟩, ⟨hT, hB⟩, ⟨hne, hno⟩, ⟨hrd, hnp, hpw, hpR⟩⟩ := id hR
  have hf0 : cells ≤ room_1.cells ∧ slots ≤ room_1.slots := ⟨Nat.le_of_succ_le hf.1, Nat.le_trans (Nat.le_add_right _ _) hf.2⟩
  have hTk : ∀ k, sm_kv (U.1 k) := fun k => by rw [← hT.1]; exact hB.1 k
  have hC40 : C.2.2.2.2.2.2.2 ≤ 40 := hpR.1.2
  have hcx : C.2.2.2.2.2.1 ≤ C.2.2.2.2.2.2.2 := hpR.1.1
  have hw8 : C.2.2.2.2.2.2.1 ≤ 8 := sm_pR8 hpR
  have hwt : C.2.2.2.2.2.2.1 ≤ 40 := Nat.le_trans hw8 (by decide)
  have hrd40 : rd ≤ 40 := by rw [hrd]; exact hC40
  have hpw40 : pw ≤ 40 := by rw [hpw]; exact hwt
  have hn120 : n2 ≤ 120 := by rw [hn2]; exact hM1
  refine lv_aload_n hx hb dL_law_475 rfl (lv_at hl 1 rfl) ?_
  refine sw_arg X hS (i := i) (j := 1) (jI := 1) (by omega) (by decide) hl 0 rfl 5 rfl dL_law_476 dL_law_477 dL_law_479 dL_law_480 dL_law_481 ?_
  rw [e1]
  refine sw_arg X hS (i := i) (j := 2) (jI := 2) (by omega) (by decide) hl 0 rfl 5 rfl dL_law_482 dL_law_483 dL_law_485 dL_law_486 dL_law_487 ?_
  refine sw_arg X hS (i := i) (j := 3) (jI := 3) (by omega) (by decide) hl 0 rfl 5 rfl dL_law_488 dL_law_489 dL_law_491 dL_law_492 dL_law_493 ?_
  refine lv_aload_n hx hb dL_law_494 rfl (lv_at hl 3 rfl) ?_
  refine sm_cH (rest := []) hC hK hP hD hS hZ (h_write (o := oL) (c_X6_write D ad P S T Lg M C cp ph fo ne no rc (sw_o D oL oD gL gD (sm_w7 D am P S U Lg nm Z cq ph th n2 fo rd np pw ev od rc [])) hlt k hk (xs (i + 2)) (xs (i + 3)) hfo hL1 hLk hM1 hP6) rfl (fun w h => ⟨gL, by obtain ⟨_, rfl⟩ := h; rfl⟩) (fun v h => ⟨_, (sm_rsv h).2⟩) (fun E h => sm_e2 (sm_rWr _ _ _ _ _) h)) qyL_write wl_RL_132 ⟨(Nat.le_of_ble_eq_true rfl), (Nat.le_of_ble_eq_true rfl)⟩ rfl hl.1 rfl (Nat.le_of_ble_eq_true rfl) dL_law_495 hf (fun k1 w1 H locs hB1 hP hD hS => ?_)
  obtain ⟨rfl, cp1, gL1, rfl, hg⟩ := sw_bZ (K := (sm_kWr ph Lg M (xs (i + 2)) (xs (i + 3)))) (x := (sm_live ph T S k)) (f := fun (a : sm_Cp) (g : Nat → Int64) => sm_w6 D ad P (if sm_kWr ph Lg M (xs (i + 2)) (xs (i + 3)) = 0 then (if ph = 116 then S else sm_putS S k (xs (i + 2)) (xs (i + 3))) else S) (if sm_kWr ph Lg M (xs (i + 2)) (xs (i + 3)) = 0 then (if ph = 116 then sm_entT T k (xs (i + 2)) (xs (i + 3)) (nI Lg.1) else if ph = 98 then sm_fo1 P (sm_appL Lg k false (xs (i + 2)) (xs (i + 3))) T fo else T) else T) (if sm_kWr ph Lg M (xs (i + 2)) (xs (i + 3)) = 0 then (if ph = 116 then Lg else if ph = 105 then Lg else sm_appL Lg k false (xs (i + 2)) (xs (i + 3))) else Lg) (if sm_kWr ph Lg M (xs (i + 2)) (xs (i + 3)) = 0 then (if ph = 116 then sm_appL M k false (xs (i + 2)) (xs (i + 3)) else M) else M) C a ph (if sm_kWr ph Lg M (xs (i + 2)) (xs (i + 3)) = 0 then (if ph = 98 then fo + 1 else fo) else fo) ne no rc (sw_o D oL oD g gD (sm_w7 D am P S U Lg nm Z cq ph th n2 fo rd np pw ev od rc []))) (g0 := gL) (fun _ _ _ => rfl) (fun w h => h) (sm_h2 sw_dAS (sm_rWr _ _ _ _ _) hB1)
  refine lv_istore (lv' := [(6, .int (sm_kWr ph Lg M (xs (i + 2)) (xs (i + 3)))), (0, .ref b), (1, .ref (ad 0)), (2, .ref (am 0)), (3, .ref oL), (4, .ref oD), (5, .int (nI i))]) hx hb dL_law_498 hl (by decide) rfl (fun ls hl => ?_)
  have hP := sw_tP hP
  have hD := sw_tD hD
  refine lv_aload_n hx hb dL_law_500 rfl (lv_at hl 3 rfl) ?_
  refine sw_arg X hS (i := i) (j := 1) (jI := 1) (by omega) (by decide) hl 1 rfl 6 rfl dL_law_501 dL_law_502 dL_law_504 dL_law_505 dL_law_506 ?_
  rw [e1]
  refine sw_arg X hS (i := i) (j := 2) (jI := 2) (by omega) (by decide) hl 1 rfl 6 rfl dL_law_507 dL_law_508 dL_law_510 dL_law_511 dL_law_512 ?_
  refine sw_arg X hS (i := i) (j := 3) (jI := 3) (by omega) (by decide) hl 1 rfl 6 rfl dL_law_513 dL_law_514 dL_law_516 dL_law_517 dL_law_518 ?_
  refine sm_cVCr (rest := []) hC hK hP hD hS hZ (c_X7_write D am P S U Lg nm Z cq ph th n2 fo rd np pw ev od rc _ k hk (xs (i + 2)) (xs (i + 3)) hfo hn120 hL1 hLk hP6 hOK hTk) qyX7_write wl_RL_135 ⟨(Nat.le_of_ble_eq_true rfl), (Nat.le_of_ble_eq_true rfl)⟩ 0 rfl rfl rfl hl.1 rfl (Nat.le_of_ble_eq_true rfl) dL_law_519 hf (fun w1 H locs hB1 hP hD hS => ?_)
  obtain ⟨cq1, rfl⟩ := hB1
  obtain ⟨q1, q2, q3⟩ := sw_m7 hk (a := xs (i + 2)) (b := xs (i + 3)) hR
  obtain ⟨q4, q5, q6⟩ := sw_m7e (k := k) (a := xs (i + 2)) (b := xs (i + 3)) hR
  exact sw_tZ hC hK hP (c_X7_thrown _ _ _ _ _ _ _ _ _ _ _ _ _ _ _ _ _ _ _ _) rfl (q1) 53 rfl (y := (if sm_kWr ph Lg (n2, Lg.2) (xs (i + 2)) (xs (i + 3)) = 0 then sm_liv ph U S k else false)) hg (q2) hl hf (by decide) dL_law_522 dL_law_524 dL_law_525 dL_law_528 dL_law_530 dL_law_535 dL_law_537 dL_law_540 dL_law_541 dL_law_542 dL_law_543 dL_law_545 dL_law_548 dL_law_549 dL_law_552 dL_law_553 dL_law_554 dL_law_559 (fun ls hl => go _ _ _ (sw_mk (q3) hP hD hS hl (rfl) (q4) (q5) (rfl) (q6) (rfl)))
set_option maxRecDepth 100000 in
theorem sw_c_delete_i {p : Program} {l : Launch} {e : Env} {s : State} {m : MethodId} {below : List Frame} {meth : Method} {c : Code} {H : Heap} {locs : List Loc} {cells slots : Nat} {Q : State → Prop} {ls : Array Slot} {D : sm_G} {b L i : Nat} {xs : Nat → Int32} {ad am : Nat → Nat} {oL oD : Nat} (hbk : sm_isKey (xs (i + 1)) = false) (X : sw_X p l s m meth c b L xs D) (hi : i + 4 ≤ L) (hI : sw_I s D b ad am oL oD (nI i) ls H locs) (hf : cells + 1 ≤ room_1.cells ∧ slots + 6 ≤ room_1.slots) (go : ∀ (H : Heap) (locs : List Loc) (ls : Array Slot), sw_I s D b ad am oL oD (nI i) ls H locs → W p l e room_1 s m #[Value.ref b] below meth c H locs (cells + 1) (slots + 6) Q (F0 m 1616 ls [])) : W p l e room_1 s m #[Value.ref b] below meth c H locs cells slots Q (F0 m 562 ls []) := by
  obtain ⟨hC, hK, hZ, hlt, hX, hbl, hL⟩ := id X
  obtain ⟨hx, hb, hml, hrt, hown, hlk, hts⟩ := id hC
  obtain ⟨P, S, T, Lg, M, C, cp, ph, fo, ne, no, rc, U, nm, Z, cq, th, n2, rd, np, pw, ev, od, gL, gD, hR, hP, hD, hS, hl⟩ := hI
  obtain ⟨⟨hP6, hOK⟩, hph, ⟨hL1, hLk, hfo⟩, ⟨hM1, hMk, hn2, hnR⟩, ⟨hT, hB⟩, ⟨hne, hno⟩, ⟨hrd, hnp, hpw, hpR⟩⟩ := id hR
  have hf0 : cells ≤ room_1.cells ∧ slots ≤ room_1.slots := ⟨Nat.le_of_succ_le hf.1, Nat.le_trans (Nat.le_add_right _ _) hf.2⟩
  have hTk : ∀ k, sm_kv (U.1 k) := fun k => by rw [← hT.1]; exact hB.1 k
  have hC40 : C.2.2.2.2.2.2.2 ≤ 40 := hpR.1.2
  have hcx : C.2.2.2.2.2.1 ≤ C.2.2.2.2.2.2.2 := hpR.1.1
  have hw8 : C.2.2.2.2.2.2.1 ≤ 8 := sm_pR8 hpR
  have hwt : C.2.2.2.2.2.2.1 ≤ 40 := Nat.le_trans hw8 (by decide)
  have hrd40 : rd ≤ 40 := by rw [hrd]; exact hC40
  have hpw40 : pw ≤ 40 := by rw [hpw]; exact hwt
  have hn120 : n2 ≤ 120 := by rw [hn2]; exact hM1
  refine lv_aload_n hx hb dL_law_562 rfl (lv_at hl 1 rfl) ?_
  refine sw_arg X hS (i := i) (j := 1) (jI := 1) (by omega) (by decide) hl 0 rfl 5 rfl dL_law_563 dL_law_564 dL_law_566 dL_law_567 dL_law_568 ?_
  refine lv_aload_n hx hb dL_law_569 rfl (lv_at hl 3 rfl) ?_
  refine sm_cH (rest := []) hC hK hP hD hS hZ (h_delete (o := oL) (c_X6_delete_i D ad P S T Lg M C cp ph fo ne no rc (sw_o D oL oD gL gD (sm_w7 D am P S U Lg nm Z cq ph th n2 fo rd np pw ev od rc [])) hlt (xs (i + 1)) hbk) rfl (fun w h => ⟨gL, by rw [h]; rfl⟩) (fun v h => by cases h) (fun E h => Or.inl (Sum.inl.inj h).symm)) qyL_delete wl_RL_136 ⟨(Nat.le_of_ble_eq_true rfl), (Nat.le_of_ble_eq_true rfl)⟩ rfl hl.1 rfl (Nat.le_of_ble_eq_true rfl) dL_law_570 hf (fun k1 w1 H locs hB1 hP hD hS => ?_)
  obtain ⟨rfl, cp1, gL1, rfl, hg⟩ := sw_bZ (K := 1) (x := false) (f := fun (a : sm_Cp) (g : Nat → Int64) => sm_w6 D ad P S T Lg M C a ph fo ne no rc (sw_o D oL oD g gD (sm_w7 D am P S U Lg nm Z cq ph th n2 fo rd np pw ev od rc []))) (g0 := gL) (fun _ _ _ => rfl) (fun w h => ⟨cp, h⟩) (sw_hx (sw_n2 sw_dAS) hB1)
  refine lv_istore (lv' := [(6, .int 1), (0, .ref b), (1, .ref (ad 0)), (2, .ref (am 0)), (3, .ref oL), (4, .ref oD), (5, .int (nI i))]) hx hb dL_law_573 hl (by decide) rfl (fun ls hl => ?_)
  have hP := sw_tP hP
  have hD := sw_tD hD
  refine lv_aload_n hx hb dL_law_575 rfl (lv_at hl 3 rfl) ?_
  refine sw_arg X hS (i := i) (j := 1) (jI := 1) (by omega) (by decide) hl 1 rfl 6 rfl dL_law_576 dL_law_577 dL_law_579 dL_law_580 dL_law_581 ?_
  refine sm_cVCr (rest := []) hC hK hP hD hS hZ (c_X7_delete_i D am P S U Lg nm Z cq ph th n2 fo rd np pw ev od rc _ (xs (i + 1)) hbk) qyX7_delete wl_RL_139 ⟨(Nat.le_of_ble_eq_true rfl), (Nat.le_of_ble_eq_true rfl)⟩ 0 rfl rfl rfl hl.1 rfl (Nat.le_of_ble_eq_true rfl) dL_law_582 hf (fun w1 H locs hB1 hP hD hS => ?_)
  obtain rfl := hB1
  exact sw_tZ hC hK hP (c_X7_thrown _ _ _ _ _ _ _ _ _ _ _ _ _ _ _ _ _ _ _ _) rfl (rfl) 53 rfl (y := false) hg (fun z => absurd z (by decide)) hl hf (by decide) dL_law_585 dL_law_587 dL_law_588 dL_law_591 dL_law_593 dL_law_598 dL_law_600 dL_law_603 dL_law_604 dL_law_605 dL_law_606 dL_law_608 dL_law_611 dL_law_612 dL_law_615 dL_law_616 dL_law_617 dL_law_622 (fun ls hl => go _ _ _ (sw_mk (hR) hP hD hS hl (rfl) (rfl) (rfl) (rfl) (rfl) (rfl)))
set_option maxRecDepth 100000 in
theorem sw_c_delete {p : Program} {l : Launch} {e : Env} {s : State} {m : MethodId} {below : List Frame} {meth : Method} {c : Code} {H : Heap} {locs : List Loc} {cells slots : Nat} {Q : State → Prop} {ls : Array Slot} {D : sm_G} {b L i : Nat} {xs : Nat → Int32} {ad am : Nat → Nat} {oL oD : Nat} {k : Nat} (hk : k < 40) (e1 : xs (i + 1) = nI k) (X : sw_X p l s m meth c b L xs D) (hi : i + 4 ≤ L) (hI : sw_I s D b ad am oL oD (nI i) ls H locs) (hf : cells + 1 ≤ room_1.cells ∧ slots + 6 ≤ room_1.slots) (go : ∀ (H : Heap) (locs : List Loc) (ls : Array Slot), sw_I s D b ad am oL oD (nI i) ls H locs → W p l e room_1 s m #[Value.ref b] below meth c H locs (cells + 1) (slots + 6) Q (F0 m 1616 ls [])) : W p l e room_1 s m #[Value.ref b] below meth c H locs cells slots Q (F0 m 562 ls []) := by
  obtain ⟨hC, hK, hZ, hlt, hX, hbl, hL⟩ := id X
  obtain ⟨hx, hb, hml, hrt, hown, hlk, hts⟩ := id hC
  obtain ⟨P, S, T, Lg, M, C, cp, ph, fo, ne, no, rc, U, nm, Z, cq, th, n2, rd, np, pw, ev, od, gL, gD, hR, hP, hD, hS, hl⟩ := hI
  obtain ⟨⟨hP6, hOK⟩, hph, ⟨hL1, hLk, hfo⟩, ⟨hM1, hMk, hn2, hnR⟩, ⟨hT, hB⟩, ⟨hne, hno⟩, ⟨hrd, hnp, hpw, hpR⟩⟩ := id hR
  have hf0 : cells ≤ room_1.cells ∧ slots ≤ room_1.slots := ⟨Nat.le_of_succ_le hf.1, Nat.le_trans (Nat.le_add_right _ _) hf.2⟩
  have hTk : ∀ k, sm_kv (U.1 k) := fun k => by rw [← hT.1]; exact hB.1 k
  have hC40 : C.2.2.2.2.2.2.2 ≤ 40 := hpR.1.2
  have hcx : C.2.2.2.2.2.1 ≤ C.2.2.2.2.2.2.2 := hpR.1.1
  have hw8 : C.2.2.2.2.2.2.1 ≤ 8 := sm_pR8 hpR
  have hwt : C.2.2.2.2.2.2.1 ≤ 40 := Nat.le_trans hw8 (by decide)
  have hrd40 : rd ≤ 40 := by rw [hrd]; exact hC40
  have hpw40 : pw ≤ 40 := by rw [hpw]; exact hwt
  have hn120 : n2 ≤ 120 := by rw [hn2]; exact hM1
  refine lv_aload_n hx hb dL_law_562 rfl (lv_at hl 1 rfl) ?_
  refine sw_arg X hS (i := i) (j := 1) (jI := 1) (by omega) (by decide) hl 0 rfl 5 rfl dL_law_563 dL_law_564 dL_law_566 dL_law_567 dL_law_568 ?_
  rw [e1]
  refine lv_aload_n hx hb dL_law_569 rfl (lv_at hl 3 rfl) ?_
  refine sm_cH (rest := []) hC hK hP hD hS hZ (h_delete (o := oL) (c_X6_delete D ad P S T Lg M C cp ph fo ne no rc (sw_o D oL oD gL gD (sm_w7 D am P S U Lg nm Z cq ph th n2 fo rd np pw ev od rc [])) hlt k hk hfo hL1 hLk hM1 hP6) rfl (fun w h => ⟨gL, by obtain ⟨_, rfl⟩ := h; rfl⟩) (fun v h => ⟨_, (sm_rsv h).2⟩) (fun E h => sm_e2 (sm_rDl _ _ _ _ _ _) h)) qyL_delete wl_RL_136 ⟨(Nat.le_of_ble_eq_true rfl), (Nat.le_of_ble_eq_true rfl)⟩ rfl hl.1 rfl (Nat.le_of_ble_eq_true rfl) dL_law_570 hf (fun k1 w1 H locs hB1 hP hD hS => ?_)
  obtain ⟨rfl, cp1, gL1, rfl, hg⟩ := sw_bZ (K := (sm_kDl ph T S Lg M k)) (x := (sm_live ph T S k)) (f := fun (a : sm_Cp) (g : Nat → Int64) => sm_w6 D ad P (if sm_kDl ph T S Lg M k = 0 ∧ sm_live ph T S k = true then (if ph = 116 then S else sm_rmS S k) else S) (if sm_kDl ph T S Lg M k = 0 ∧ sm_live ph T S k = true then (if ph = 116 then sm_hldT T k 3 (nI Lg.1) else if ph = 98 then sm_fo1 P (sm_appL Lg k true 0 0) T fo else T) else T) (if sm_kDl ph T S Lg M k = 0 ∧ sm_live ph T S k = true then (if ph = 116 then Lg else if ph = 105 then Lg else sm_appL Lg k true 0 0) else Lg) (if sm_kDl ph T S Lg M k = 0 ∧ sm_live ph T S k = true then (if ph = 116 then sm_appL M k true 0 0 else M) else M) C a ph (if sm_kDl ph T S Lg M k = 0 ∧ sm_live ph T S k = true then (if ph = 98 then fo + 1 else fo) else fo) ne no rc (sw_o D oL oD g gD (sm_w7 D am P S U Lg nm Z cq ph th n2 fo rd np pw ev od rc []))) (g0 := gL) (fun _ _ _ => rfl) (fun w h => h) (sm_h2 sw_dAS (sm_rDl _ _ _ _ _ _) hB1)
  refine lv_istore (lv' := [(6, .int (sm_kDl ph T S Lg M k)), (0, .ref b), (1, .ref (ad 0)), (2, .ref (am 0)), (3, .ref oL), (4, .ref oD), (5, .int (nI i))]) hx hb dL_law_573 hl (by decide) rfl (fun ls hl => ?_)
  have hP := sw_tP hP
  have hD := sw_tD hD
  refine lv_aload_n hx hb dL_law_575 rfl (lv_at hl 3 rfl) ?_
  refine sw_arg X hS (i := i) (j := 1) (jI := 1) (by omega) (by decide) hl 1 rfl 6 rfl dL_law_576 dL_law_577 dL_law_579 dL_law_580 dL_law_581 ?_
  rw [e1]
  refine sm_cVCr (rest := []) hC hK hP hD hS hZ (c_X7_delete D am P S U Lg nm Z cq ph th n2 fo rd np pw ev od rc _ k hk hfo hn120 hL1 hLk hP6 hOK hTk) qyX7_delete wl_RL_139 ⟨(Nat.le_of_ble_eq_true rfl), (Nat.le_of_ble_eq_true rfl)⟩ 0 rfl rfl rfl hl.1 rfl (Nat.le_of_ble_eq_true rfl) dL_law_582 hf (fun w1 H locs hB1 hP hD hS => ?_)
  obtain ⟨cq1, rfl⟩ := hB1
  obtain ⟨q1, q2, q3, q4, q5, q6⟩ := sw_m8 hk hR
  exact sw_tZ hC hK hP (c_X7_thrown _ _ _ _ _ _ _ _ _ _ _ _ _ _ _ _ _ _ _ _) rfl (q1) 53 rfl (y := (if sm_mDl ph U S Lg n2 k = 0 then sm_liv ph U S k else false)) hg (q2) hl hf (by decide) dL_law_585 dL_law_587 dL_law_588 dL_law_591 dL_law_593 dL_law_598 dL_law_600 dL_law_603 dL_law_604 dL_law_605 dL_law_606 dL_law_608 dL_law_611 dL_law_612 dL_law_615 dL_law_616 dL_law_617 dL_law_622 (fun ls hl => go _ _ _ (sw_mk (q3) hP hD hS hl (rfl) (q4) (q5) (rfl) (q6) (rfl)))
set_option maxRecDepth 100000 in
theorem sw_c_read_i {p : Program} {l : Launch} {e : Env} {s : State} {m : MethodId} {below : List Frame} {meth : Method} {c : Code} {H : Heap} {locs : List Loc} {cells slots : Nat} {Q : State → Prop} {ls : Array Slot} {D : sm_G} {b L i : Nat} {xs : Nat → Int32} {ad am : Nat → Nat} {oL oD : Nat} (hbk : sm_isKey (xs (i + 1)) = false) (X : sw_X p l s m meth c b L xs D) (hi : i + 4 ≤ L) (hI : sw_I s D b ad am oL oD (nI i) ls H locs) (hf : cells + 1 ≤ room_1.cells ∧ slots + 6 ≤ room_1.slots) (go : ∀ (H : Heap) (locs : List Loc) (ls : Array Slot), sw_I s D b ad am oL oD (nI i) ls H locs → W p l e room_1 s m #[Value.ref b] below meth c H locs (cells + 1) (slots + 6) Q (F0 m 1616 ls [])) : W p l e room_1 s m #[Value.ref b] below meth c H locs cells slots Q (F0 m 625 ls []) := by
  obtain ⟨hC, hK, hZ, hlt, hX, hbl, hL⟩ := id X
  obtain ⟨hx, hb, hml, hrt, hown, hlk, hts⟩ := id hC
  obtain ⟨P, S, T, Lg, M, C, cp, ph, fo, ne, no, rc, U, nm, Z, cq, th, n2, rd, np, pw, ev, od, gL, gD, hR, hP, hD, hS, hl⟩ := hI
  obtain ⟨⟨hP6, hOK⟩, hph, ⟨hL1, hLk, hfo⟩, ⟨hM1, hMk, hn2, hnR⟩, ⟨hT, hB⟩, ⟨hne, hno⟩, ⟨hrd, hnp, hpw, hpR⟩⟩ := id hR
  have hf0 : cells ≤ room_1.cells ∧ slots ≤ room_1.slots := ⟨Nat.le_of_succ_le hf.1, Nat.le_trans (Nat.le_add_right _ _) hf.2⟩
  have hTk : ∀ k, sm_kv (U.1 k) := fun k => by rw [← hT.1]; exact hB.1 k
  have hC40 : C.2.2.2.2.2.2.2 ≤ 40 := hpR.1.2
  have hcx : C.2.2.2.2.2.1 ≤ C.2.2.2.2.2.2.2 := hpR.1.1
  have hw8 : C.2.2.2.2.2.2.1 ≤ 8 := sm_pR8 hpR
  have hwt : C.2.2.2.2.2.2.1 ≤ 40 := Nat.le_trans hw8 (by decide)
  have hrd40 : rd ≤ 40 := by rw [hrd]; exact hC40
  have hpw40 : pw ≤ 40 := by rw [hpw]; exact hwt
  have hn120 : n2 ≤ 120 := by rw [hn2]; exact hM1
  refine lv_aload_n hx hb dL_law_625 rfl (lv_at hl 1 rfl) ?_
  refine sw_arg X hS (i := i) (j := 1) (jI := 1) (by omega) (by decide) hl 0 rfl 5 rfl dL_law_626 dL_law_627 dL_law_629 dL_law_630 dL_law_631 ?_
  refine sw_arg X hS (i := i) (j := 2) (jI := 2) (by omega) (by decide) hl 0 rfl 5 rfl dL_law_632 dL_law_633 dL_law_635 dL_law_636 dL_law_637 ?_
  refine sw_bool hx hb dL_law_638 dL_law_641 dL_law_642 dL_law_645 ?_
  refine lv_aload_n hx hb dL_law_646 rfl (lv_at hl 3 rfl) ?_
  refine sm_cH (rest := []) hC hK hP hD hS hZ (h_read (o := oL) (c_X6_read_i D ad P S T Lg M C cp ph fo ne no rc (sw_o D oL oD gL gD (sm_w7 D am P S U Lg nm Z cq ph th n2 fo rd np pw ev od rc [])) hlt (xs (i + 1)) (decide (¬ xs (i + 2) = 0)) hbk) rfl (fun w h => ⟨gL, by rw [h]; rfl⟩) (fun v h => by cases h) (fun E h => Or.inl (Sum.inl.inj h).symm)) qyL_read wl_RL_140 ⟨(Nat.le_of_ble_eq_true rfl), (Nat.le_of_ble_eq_true rfl)⟩ rfl hl.1 rfl (Nat.le_of_ble_eq_true rfl) dL_law_647 hf (fun k1 w1 H locs hB1 hP hD hS => ?_)
  obtain ⟨rfl, cp1, gL1, rfl, hg⟩ := sw_bI (K := 1) (x := 0) (f := fun (a : sm_Cp) (g : Nat → Int64) => sm_w6 D ad P S T Lg M C a ph fo ne no rc (sw_o D oL oD g gD (sm_w7 D am P S U Lg nm Z cq ph th n2 fo rd np pw ev od rc []))) (g0 := gL) (fun _ _ _ => rfl) (fun w h => ⟨cp, h⟩) (sw_hx (sw_n2 sw_dAN) hB1)
  refine lv_istore (lv' := [(6, .int 1), (0, .ref b), (1, .ref (ad 0)), (2, .ref (am 0)), (3, .ref oL), (4, .ref oD), (5, .int (nI i))]) hx hb dL_law_650 hl (by decide) rfl (fun ls hl => ?_)
  have hP := sw_tP hP
  have hD := sw_tD hD
  refine lv_aload_n hx hb dL_law_652 rfl (lv_at hl 3 rfl) ?_
  refine sw_arg X hS (i := i) (j := 1) (jI := 1) (by omega) (by decide) hl 1 rfl 6 rfl dL_law_653 dL_law_654 dL_law_656 dL_law_657 dL_law_658 ?_
  refine sw_arg X hS (i := i) (j := 2) (jI := 2) (by omega) (by decide) hl 1 rfl 6 rfl dL_law_659 dL_law_660 dL_law_662 dL_law_663 dL_law_664 ?_
  refine sw_bool hx hb dL_law_665 dL_law_668 dL_law_669 dL_law_672 ?_
  refine sm_cVCr (rest := []) hC hK hP hD hS hZ (c_X7_read_i D am P S U Lg nm Z cq ph th n2 fo rd np pw ev od rc _ (xs (i + 1)) (decide (¬ xs (i + 2) = 0)) hbk) qyX7_read wl_RL_143 ⟨(Nat.le_of_ble_eq_true rfl), (Nat.le_of_ble_eq_true rfl)⟩ 0 rfl rfl rfl hl.1 rfl (Nat.le_of_ble_eq_true rfl) dL_law_673 hf (fun w1 H locs hB1 hP hD hS => ?_)
  obtain rfl := hB1
  exact sw_tI hC hK hP (c_X7_thrown _ _ _ _ _ _ _ _ _ _ _ _ _ _ _ _ _ _ _ _) rfl (rfl) 53 rfl hg (fun z => absurd z (by decide)) hl hf (by decide) dL_law_676 dL_law_678 dL_law_679 dL_law_682 dL_law_684 dL_law_689 dL_law_691 dL_law_694 dL_law_695 dL_law_696 dL_law_697 dL_law_699 dL_law_700 dL_law_701 dL_law_706 (fun ls hl => go _ _ _ (sw_mk (hR) hP hD hS hl (rfl) (rfl) (rfl) (rfl) (rfl) (rfl)))
set_option maxRecDepth 100000 in
theorem sw_c_read {p : Program} {l : Launch} {e : Env} {s : State} {m : MethodId} {below : List Frame} {meth : Method} {c : Code} {H : Heap} {locs : List Loc} {cells slots : Nat} {Q : State → Prop} {ls : Array Slot} {D : sm_G} {b L i : Nat} {xs : Nat → Int32} {ad am : Nat → Nat} {oL oD : Nat} {k : Nat} (hk : k < 40) (e1 : xs (i + 1) = nI k) (X : sw_X p l s m meth c b L xs D) (hi : i + 4 ≤ L) (hI : sw_I s D b ad am oL oD (nI i) ls H locs) (hf : cells + 1 ≤ room_1.cells ∧ slots + 6 ≤ room_1.slots) (go : ∀ (H : Heap) (locs : List Loc) (ls : Array Slot), sw_I s D b ad am oL oD (nI i) ls H locs → W p l e room_1 s m #[Value.ref b] below meth c H locs (cells + 1) (slots + 6) Q (F0 m 1616 ls [])) : W p l e room_1 s m #[Value.ref b] below meth c H locs cells slots Q (F0 m 625 ls []) := by
  obtain ⟨hC, hK, hZ, hlt, hX, hbl, hL⟩ := id X
  obtain ⟨hx, hb, hml, hrt, hown, hlk, hts⟩ := id hC
  obtain ⟨P, S, T, Lg, M, C, cp, ph, fo, ne, no, rc, U, nm, Z, cq, th, n2, rd, np, pw, ev, od, gL, gD, hR, hP, hD, hS, hl⟩ := hI
  obtain ⟨⟨hP6, hOK⟩, hph, ⟨hL1, hLk, hfo⟩, ⟨hM1, hMk, hn2, hnR⟩, ⟨hT, hB⟩, ⟨hne, hno⟩, ⟨hrd, hnp, hpw, hpR⟩⟩ := id hR
  have hf0 : cells ≤ room_1.cells ∧ slots ≤ room_1.slots := ⟨Nat.le_of_succ_le hf.1, Nat.le_trans (Nat.le_add_right _ _) hf.2⟩
  have hTk : ∀ k, sm_kv (U.1 k) := fun k => by rw [← hT.1]; exact hB.1 k
  have hC40 : C.2.2.2.2.2.2.2 ≤ 40 := hpR.1.2
  have hcx : C.2.2.2.2.2.1 ≤ C.2.2.2.2.2.2.2 := hpR.1.1
  have hw8 : C.2.2.2.2.2.2.1 ≤ 8 := sm_pR8 hpR
  have hwt : C.2.2.2.2.2.2.1 ≤ 40 := Nat.le_trans hw8 (by decide)
  have hrd40 : rd ≤ 40 := by rw [hrd]; exact hC40
  have hpw40 : pw ≤ 40 := by rw [hpw]; exact hwt
  have hn120 : n2 ≤ 120 := by rw [hn2]; exact hM1
  refine lv_aload_n hx hb dL_law_625 rfl (lv_at hl 1 rfl) ?_
  refine sw_arg X hS (i := i) (j := 1) (jI := 1) (by omega) (by decide) hl 0 rfl 5 rfl dL_law_626 dL_law_627 dL_law_629 dL_law_630 dL_law_631 ?_
  rw [e1]
  refine sw_arg X hS (i := i) (j := 2) (jI := 2) (by omega) (by decide) hl 0 rfl 5 rfl dL_law_632 dL_law_633 dL_law_635 dL_law_636 dL_law_637 ?_
  refine sw_bool hx hb dL_law_638 dL_law_641 dL_law_642 dL_law_645 ?_
  refine lv_aload_n hx hb dL_law_646 rfl (lv_at hl 3 rfl) ?_
  refine sm_cH (rest := []) hC hK hP hD hS hZ (h_read (o := oL) (c_X6_read D ad P S T Lg M C cp ph fo ne no rc (sw_o D oL oD gL gD (sm_w7 D am P S U Lg nm Z cq ph th n2 fo rd np pw ev od rc [])) hlt k hk (decide (¬ xs (i + 2) = 0))) rfl (fun w h => ⟨gL, by rw [h]; rfl⟩) (fun v h => ⟨_, (sm_rsv h).2⟩) (fun E h => sm_e2 (sm_r2 _) h)) qyL_read wl_RL_140 ⟨(Nat.le_of_ble_eq_true rfl), (Nat.le_of_ble_eq_true rfl)⟩ rfl hl.1 rfl (Nat.le_of_ble_eq_true rfl) dL_law_647 hf (fun k1 w1 H locs hB1 hP hD hS => ?_)
  obtain ⟨rfl, cp1, gL1, rfl, hg⟩ := sw_bI (K := (sm_k2 (sm_live ph T S k))) (x := (sm_rdF ph T S k (decide (¬ xs (i + 2) = 0)))) (f := fun (a : sm_Cp) (g : Nat → Int64) => sm_w6 D ad P S T Lg M C a ph fo ne no rc (sw_o D oL oD g gD (sm_w7 D am P S U Lg nm Z cq ph th n2 fo rd np pw ev od rc []))) (g0 := gL) (fun _ _ _ => rfl) (fun w h => ⟨cp, h⟩) (sm_h2 sw_dAN (sm_r2 _) hB1)
  refine lv_istore (lv' := [(6, .int (sm_k2 (sm_live ph T S k))), (0, .ref b), (1, .ref (ad 0)), (2, .ref (am 0)), (3, .ref oL), (4, .ref oD), (5, .int (nI i))]) hx hb dL_law_650 hl (by decide) rfl (fun ls hl => ?_)
  have hP := sw_tP hP
  have hD := sw_tD hD
  refine lv_aload_n hx hb dL_law_652 rfl (lv_at hl 3 rfl) ?_
  refine sw_arg X hS (i := i) (j := 1) (jI := 1) (by omega) (by decide) hl 1 rfl 6 rfl dL_law_653 dL_law_654 dL_law_656 dL_law_657 dL_law_658 ?_
  rw [e1]
  refine sw_arg X hS (i := i) (j := 2) (jI := 2) (by omega) (by decide) hl 1 rfl 6 rfl dL_law_659 dL_law_660 dL_law_662 dL_law_663 dL_law_664 ?_
  refine sw_bool hx hb dL_law_665 dL_law_668 dL_law_669 dL_law_672 ?_
  refine sm_cVCr (rest := []) hC hK hP hD hS hZ (c_X7_read D am P S U Lg nm Z cq ph th n2 fo rd np pw ev od rc _ k hk (decide (¬ xs (i + 2) = 0))) qyX7_read wl_RL_143 ⟨(Nat.le_of_ble_eq_true rfl), (Nat.le_of_ble_eq_true rfl)⟩ 0 rfl rfl rfl hl.1 rfl (Nat.le_of_ble_eq_true rfl) dL_law_673 hf (fun w1 H locs hB1 hP hD hS => ?_)
  obtain rfl := hB1
  obtain ⟨q1, q2⟩ := sw_m9 (k := k) (z := (decide (¬ xs (i + 2) = 0))) hR
  exact sw_tI hC hK hP (c_X7_thrown _ _ _ _ _ _ _ _ _ _ _ _ _ _ _ _ _ _ _ _) rfl (q1) 53 rfl hg (q2) hl hf (by decide) dL_law_676 dL_law_678 dL_law_679 dL_law_682 dL_law_684 dL_law_689 dL_law_691 dL_law_694 dL_law_695 dL_law_696 dL_law_697 dL_law_699 dL_law_700 dL_law_701 dL_law_706 (fun ls hl => go _ _ _ (sw_mk (hR) hP hD hS hl (rfl) (rfl) (rfl) (rfl) (rfl) (rfl)))
set_option maxRecDepth 100000 in
theorem sw_c_nextNumber {p : Program} {l : Launch} {e : Env} {s : State} {m : MethodId} {below : List Frame} {meth : Method} {c : Code} {H : Heap} {locs : List Loc} {cells slots : Nat} {Q : State → Prop} {ls : Array Slot} {D : sm_G} {b L i : Nat} {xs : Nat → Int32} {ad am : Nat → Nat} {oL oD : Nat} (X : sw_X p l s m meth c b L xs D) (hi : i + 4 ≤ L) (hI : sw_I s D b ad am oL oD (nI i) ls H locs) (hf : cells + 1 ≤ room_1.cells ∧ slots + 6 ≤ room_1.slots) (go : ∀ (H : Heap) (locs : List Loc) (ls : Array Slot), sw_I s D b ad am oL oD (nI i) ls H locs → W p l e room_1 s m #[Value.ref b] below meth c H locs (cells + 1) (slots + 6) Q (F0 m 1616 ls [])) : W p l e room_1 s m #[Value.ref b] below meth c H locs cells slots Q (F0 m 709 ls []) := by
  obtain ⟨hC, hK, hZ, hlt, hX, hbl, hL⟩ := id X
  obtain ⟨hx, hb, hml, hrt, hown, hlk, hts⟩ := id hC
  obtain ⟨P, S, T, Lg, M, C, cp, ph, fo, ne, no, rc, U, nm, Z, cq, th, n2, rd, np, pw, ev, od, gL, gD, hR, hP, hD, hS, hl⟩ := hI
  obtain ⟨⟨hP6, hOK⟩, hph, ⟨hL1, hLk, hfo⟩, ⟨hM1, hMk, hn2, hnR⟩, ⟨hT, hB⟩, ⟨hne, hno⟩, ⟨hrd, hnp, hpw, hpR⟩⟩ := id hR
  have hf0 : cells ≤ room_1.cells ∧ slots ≤ room_1.slots := ⟨Nat.le_of_succ_le hf.1, Nat.le_trans (Nat.le_add_right _ _) hf.2⟩
  have hTk : ∀ k, sm_kv (U.1 k) := fun k => by rw [← hT.1]; exact hB.1 k
  have hC40 : C.2.2.2.2.2.2.2 ≤ 40 := hpR.1.2
  have hcx : C.2.2.2.2.2.1 ≤ C.2.2.2.2.2.2.2 := hpR.1.1
  have hw8 : C.2.2.2.2.2.2.1 ≤ 8 := sm_pR8 hpR
  have hwt : C.2.2.2.2.2.2.1 ≤ 40 := Nat.le_trans hw8 (by decide)
  have hrd40 : rd ≤ 40 := by rw [hrd]; exact hC40
  have hpw40 : pw ≤ 40 := by rw [hpw]; exact hwt
  have hn120 : n2 ≤ 120 := by rw [hn2]; exact hM1
  refine lv_aload_n hx hb dL_law_709 rfl (lv_at hl 1 rfl) ?_
  refine lv_aload_n hx hb dL_law_710 rfl (lv_at hl 3 rfl) ?_
  refine sm_cH (rest := []) hC hK hP hD hS hZ (h_nextNumber (o := oL) (c_X6_nextNumber D ad P S T Lg M C cp ph fo ne no rc (sw_o D oL oD gL gD (sm_w7 D am P S U Lg nm Z cq ph th n2 fo rd np pw ev od rc [])) hlt) rfl (fun w h => ⟨gL, by rw [h]; rfl⟩) (fun v h => ⟨_, (sm_rsv h).2⟩) (fun E h => sm_e1 (sm_rNx _) h)) qyL_nextNumber wl_RL_144 ⟨(Nat.le_of_ble_eq_true rfl), (Nat.le_of_ble_eq_true rfl)⟩ rfl hl.1 rfl (Nat.le_of_ble_eq_true rfl) dL_law_711 hf (fun k1 w1 H locs hB1 hP hD hS => ?_)
  obtain ⟨rfl, cp1, gL1, rfl, hg⟩ := sw_bI (K := (sm_kNx ph)) (x := (nI (if ph = 116 then no + 2 - 2 else ne + 2 - 2))) (f := fun (a : sm_Cp) (g : Nat → Int64) => sm_w6 D ad P S T Lg M C a ph fo (if sm_kNx ph = 0 then (if ph = 116 then ne else ne + 2) else ne) (if sm_kNx ph = 0 then (if ph = 116 then no + 2 else no) else no) rc (sw_o D oL oD g gD (sm_w7 D am P S U Lg nm Z cq ph th n2 fo rd np pw ev od rc []))) (g0 := gL) (fun _ _ _ => rfl) (fun w h => ⟨cp, h⟩) (sm_h1 (sm_rNx _) hB1)
  refine lv_istore (lv' := [(6, .int (sm_kNx ph)), (0, .ref b), (1, .ref (ad 0)), (2, .ref (am 0)), (3, .ref oL), (4, .ref oD), (5, .int (nI i))]) hx hb dL_law_714 hl (by decide) rfl (fun ls hl => ?_)
  have hP := sw_tP hP
  have hD := sw_tD hD
  refine lv_aload_n hx hb dL_law_716 rfl (lv_at hl 3 rfl) ?_
  refine sm_cVCr (rest := []) hC hK hP hD hS hZ (c_X7_nextNumber D am P S U Lg nm Z cq ph th n2 fo rd np pw ev od rc _) qyX7_nextNumber wl_RL_146 ⟨(Nat.le_of_ble_eq_true rfl), (Nat.le_of_ble_eq_true rfl)⟩ 0 rfl rfl rfl hl.1 rfl (Nat.le_of_ble_eq_true rfl) dL_law_717 hf (fun w1 H locs hB1 hP hD hS => ?_)
  obtain rfl := hB1
  exact sw_tI hC hK hP (c_X7_thrown _ _ _ _ _ _ _ _ _ _ _ _ _ _ _ _ _ _ _ _) rfl (rfl) 53 rfl hg (sw_m10 hR) hl hf (by decide) dL_law_720 dL_law_722 dL_law_723 dL_law_726 dL_law_728 dL_law_733 dL_law_735 dL_law_738 dL_law_739 dL_law_740 dL_law_741 dL_law_743 dL_law_744 dL_law_745 dL_law_750 (fun ls hl => go _ _ _ (sw_mk (sm_RlNx hR) hP hD hS hl (rfl) (rfl) (rfl) (rfl) (rfl) (rfl)))
set_option maxRecDepth 100000 in
theorem sw_c_readPart_i {p : Program} {l : Launch} {e : Env} {s : State} {m : MethodId} {below : List Frame} {meth : Method} {c : Code} {H : Heap} {locs : List Loc} {cells slots : Nat} {Q : State → Prop} {ls : Array Slot} {D : sm_G} {b L i : Nat} {xs : Nat → Int32} {ad am : Nat → Nat} {oL oD : Nat} (hbk : sm_bt 1 40 (xs (i + 1)) = false) (X : sw_X p l s m meth c b L xs D) (hi : i + 4 ≤ L) (hI : sw_I s D b ad am oL oD (nI i) ls H locs) (hf : cells + 1 ≤ room_1.cells ∧ slots + 6 ≤ room_1.slots) (go : ∀ (H : Heap) (locs : List Loc) (ls : Array Slot), sw_I s D b ad am oL oD (nI i) ls H locs → W p l e room_1 s m #[Value.ref b] below meth c H locs (cells + 1) (slots + 6) Q (F0 m 1616 ls [])) : W p l e room_1 s m #[Value.ref b] below meth c H locs cells slots Q (F0 m 753 ls []) := by
  obtain ⟨hC, hK, hZ, hlt, hX, hbl, hL⟩ := id X
  obtain ⟨hx, hb, hml, hrt, hown, hlk, hts⟩ := id hC
  obtain ⟨P, S, T, Lg, M, C, cp, ph, fo, ne, no, rc, U, nm, Z, cq, th, n2, rd, np, pw, ev, od, gL, gD, hR, hP, hD, hS, hl⟩ := hI
  obtain ⟨⟨hP6, hOK⟩, hph, ⟨hL1, hLk, hfo⟩, ⟨hM1, hMk, hn2, hnR⟩, ⟨hT, hB⟩, ⟨hne, hno⟩, ⟨hrd, hnp, hpw, hpR⟩⟩ := id hR
  have hf0 : cells ≤ room_1.cells ∧ slots ≤ room_1.slots := ⟨Nat.le_of_succ_le hf.1, Nat.le_trans (Nat.le_add_right _ _) hf.2⟩
  have hTk : ∀ k, sm_kv (U.1 k) := fun k => by rw [← hT.1]; exact hB.1 k
  have hC40 : C.2.2.2.2.2.2.2 ≤ 40 := hpR.1.2
  have hcx : C.2.2.2.2.2.1 ≤ C.2.2.2.2.2.2.2 := hpR.1.1
  have hw8 : C.2.2.2.2.2.2.1 ≤ 8 := sm_pR8 hpR
  have hwt : C.2.2.2.2.2.2.1 ≤ 40 := Nat.le_trans hw8 (by decide)
  have hrd40 : rd ≤ 40 := by rw [hrd]; exact hC40
  have hpw40 : pw ≤ 40 := by rw [hpw]; exact hwt
  have hn120 : n2 ≤ 120 := by rw [hn2]; exact hM1
  refine lv_aload_n hx hb dL_law_753 rfl (lv_at hl 1 rfl) ?_
  refine sw_arg X hS (i := i) (j := 1) (jI := 1) (by omega) (by decide) hl 0 rfl 5 rfl dL_law_754 dL_law_755 dL_law_757 dL_law_758 dL_law_759 ?_
  refine lv_aload_n hx hb dL_law_760 rfl (lv_at hl 3 rfl) ?_
  refine sm_cH (rest := []) hC hK hP hD hS hZ (h_readPart (o := oL) (c_X6_readPart_i D ad P S T Lg M C cp ph fo ne no rc (sw_o D oL oD gL gD (sm_w7 D am P S U Lg nm Z cq ph th n2 fo rd np pw ev od rc [])) hlt (xs (i + 1)) hbk) rfl (fun w h => ⟨gL, by rw [h]; rfl⟩) (fun v h => by cases h) (fun E h => Or.inl (Sum.inl.inj h).symm)) qyL_readPart wl_RL_147 ⟨(Nat.le_of_ble_eq_true rfl), (Nat.le_of_ble_eq_true rfl)⟩ rfl hl.1 rfl (Nat.le_of_ble_eq_true rfl) dL_law_761 hf (fun k1 w1 H locs hB1 hP hD hS => ?_)
  obtain ⟨rfl, cp1, gL1, rfl, hg⟩ := sw_bI (K := 1) (x := 0) (f := fun (a : sm_Cp) (g : Nat → Int64) => sm_w6 D ad P S T Lg M C a ph fo ne no rc (sw_o D oL oD g gD (sm_w7 D am P S U Lg nm Z cq ph th n2 fo rd np pw ev od rc []))) (g0 := gL) (fun _ _ _ => rfl) (fun w h => ⟨cp, h⟩) (sw_hx (sw_n2 sw_dAS) hB1)
  refine lv_istore (lv' := [(6, .int 1), (0, .ref b), (1, .ref (ad 0)), (2, .ref (am 0)), (3, .ref oL), (4, .ref oD), (5, .int (nI i))]) hx hb dL_law_764 hl (by decide) rfl (fun ls hl => ?_)
  have hP := sw_tP hP
  have hD := sw_tD hD
  refine lv_aload_n hx hb dL_law_766 rfl (lv_at hl 3 rfl) ?_
  refine sw_arg X hS (i := i) (j := 1) (jI := 1) (by omega) (by decide) hl 1 rfl 6 rfl dL_law_767 dL_law_768 dL_law_770 dL_law_771 dL_law_772 ?_
  refine sm_cVCr (rest := []) hC hK hP hD hS hZ (c_X7_readPart_i D am P S U Lg nm Z cq ph th n2 fo rd np pw ev od rc _ (xs (i + 1)) hbk) qyX7_readPart wl_RL_149 ⟨(Nat.le_of_ble_eq_true rfl), (Nat.le_of_ble_eq_true rfl)⟩ 0 rfl rfl rfl hl.1 rfl (Nat.le_of_ble_eq_true rfl) dL_law_773 hf (fun w1 H locs hB1 hP hD hS => ?_)
  obtain rfl := hB1
  exact sw_tI hC hK hP (c_X7_thrown _ _ _ _ _ _ _ _ _ _ _ _ _ _ _ _ _ _ _ _) rfl (rfl) 53 rfl hg (fun z => absurd z (by decide)) hl hf (by decide) dL_law_776 dL_law_778 dL_law_779 dL_law_782 dL_law_784 dL_law_789 dL_law_791 dL_law_794 dL_law_795 dL_law_796 dL_law_797 dL_law_799 dL_law_800 dL_law_801 dL_law_806 (fun ls hl => go _ _ _ (sw_mk (hR) hP hD hS hl (rfl) (rfl) (rfl) (rfl) (rfl) (rfl)))
set_option maxRecDepth 100000 in
theorem sw_c_readPart {p : Program} {l : Launch} {e : Env} {s : State} {m : MethodId} {below : List Frame} {meth : Method} {c : Code} {H : Heap} {locs : List Loc} {cells slots : Nat} {Q : State → Prop} {ls : Array Slot} {D : sm_G} {b L i : Nat} {xs : Nat → Int32} {ad am : Nat → Nat} {oL oD : Nat} {k : Nat} (hk1 : ¬ k < 1) (hk2 : ¬ 40 < k) (e1 : xs (i + 1) = nI k) (X : sw_X p l s m meth c b L xs D) (hi : i + 4 ≤ L) (hI : sw_I s D b ad am oL oD (nI i) ls H locs) (hf : cells + 1 ≤ room_1.cells ∧ slots + 6 ≤ room_1.slots) (go : ∀ (H : Heap) (locs : List Loc) (ls : Array Slot), sw_I s D b ad am oL oD (nI i) ls H locs → W p l e room_1 s m #[Value.ref b] below meth c H locs (cells + 1) (slots + 6) Q (F0 m 1616 ls [])) : W p l e room_1 s m #[Value.ref b] below meth c H locs cells slots Q (F0 m 753 ls []) := by
  obtain ⟨hC, hK, hZ, hlt, hX, hbl, hL⟩ := id X
  obtain ⟨hx, hb, hml, hrt, hown, hlk, hts⟩ := id hC
  obtain ⟨P, S, T, Lg, M, C, cp, ph, fo, ne, no, rc, U, nm, Z, cq, th, n2, rd, np, pw, ev, od, gL, gD, hR, hP, hD, hS, hl⟩ := hI
  obtain ⟨⟨hP6, hOK⟩, hph, ⟨hL1, hLk, hfo⟩, ⟨hM1, hMk, hn2, hnR⟩, ⟨hT, hB⟩, ⟨hne, hno⟩, ⟨hrd, hnp, hpw, hpR⟩⟩ := id hR
  have hf0 : cells ≤ room_1.cells ∧ slots ≤ room_1.slots := ⟨Nat.le_of_succ_le hf.1, Nat.le_trans (Nat.le_add_right _ _) hf.2⟩
  have hTk : ∀ k, sm_kv (U.1 k) := fun k => by rw [← hT.1]; exact hB.1 k
  have hC40 : C.2.2.2.2.2.2.2 ≤ 40 := hpR.1.2
  have hcx : C.2.2.2.2.2.1 ≤ C.2.2.2.2.2.2.2 := hpR.1.1
  have hw8 : C.2.2.2.2.2.2.1 ≤ 8 := sm_pR8 hpR
  have hwt : C.2.2.2.2.2.2.1 ≤ 40 := Nat.le_trans hw8 (by decide)
  have hrd40 : rd ≤ 40 := by rw [hrd]; exact hC40
  have hpw40 : pw ≤ 40 := by rw [hpw]; exact hwt
  have hn120 : n2 ≤ 120 := by rw [hn2]; exact hM1
  refine lv_aload_n hx hb dL_law_753 rfl (lv_at hl 1 rfl) ?_
  refine sw_arg X hS (i := i) (j := 1) (jI := 1) (by omega) (by decide) hl 0 rfl 5 rfl dL_law_754 dL_law_755 dL_law_757 dL_law_758 dL_law_759 ?_
  rw [e1]
  refine lv_aload_n hx hb dL_law_760 rfl (lv_at hl 3 rfl) ?_
  refine sm_cH (rest := []) hC hK hP hD hS hZ (h_readPart (o := oL) (c_X6_readPart D ad P S T Lg M C cp ph fo ne no rc (sw_o D oL oD gL gD (sm_w7 D am P S U Lg nm Z cq ph th n2 fo rd np pw ev od rc [])) hlt k hk1 hk2 hC40 hcx hwt) rfl (fun w h => ⟨gL, by rw [h]; rfl⟩) (fun v h => ⟨_, (sm_rsv h).2⟩) (fun E h => sm_e2 (sm_rRP _ _) h)) qyL_readPart wl_RL_147 ⟨(Nat.le_of_ble_eq_true rfl), (Nat.le_of_ble_eq_true rfl)⟩ rfl hl.1 rfl (Nat.le_of_ble_eq_true rfl) dL_law_761 hf (fun k1 w1 H locs hB1 hP hD hS => ?_)
  obtain ⟨rfl, cp1, gL1, rfl, hg⟩ := sw_bI (K := (sm_kRP ph C)) (x := (nI C.2.2.2.2.2.1)) (f := fun (a : sm_Cp) (g : Nat → Int64) => sm_w6 D ad P S T Lg M (if sm_kRP ph C = 0 then sm_takeC S C k (nI Lg.1) else C) a ph fo ne no rc (sw_o D oL oD g gD (sm_w7 D am P S U Lg nm Z cq ph th n2 fo rd np pw ev od rc []))) (g0 := gL) (fun _ _ _ => rfl) (fun w h => ⟨cp, h⟩) (sm_h2 sw_dAS (sm_rRP _ _) hB1)
  refine lv_istore (lv' := [(6, .int (sm_kRP ph C)), (0, .ref b), (1, .ref (ad 0)), (2, .ref (am 0)), (3, .ref oL), (4, .ref oD), (5, .int (nI i))]) hx hb dL_law_764 hl (by decide) rfl (fun ls hl => ?_)
  have hP := sw_tP hP
  have hD := sw_tD hD
  refine lv_aload_n hx hb dL_law_766 rfl (lv_at hl 3 rfl) ?_
  refine sw_arg X hS (i := i) (j := 1) (jI := 1) (by omega) (by decide) hl 1 rfl 6 rfl dL_law_767 dL_law_768 dL_law_770 dL_law_771 dL_law_772 ?_
  rw [e1]
  refine sm_cVCr (rest := []) hC hK hP hD hS hZ (c_X7_readPart_n D am P S U Lg nm Z cq ph th n2 fo rd np pw ev od rc _ k hk1 hk2 hrd40 hpw40 (fun z => (sm_pRf hpR (by rw [← hpw]; exact z)).1)) qyX7_readPart wl_RL_149 ⟨(Nat.le_of_ble_eq_true rfl), (Nat.le_of_ble_eq_true rfl)⟩ 0 rfl rfl rfl hl.1 rfl (Nat.le_of_ble_eq_true rfl) dL_law_773 hf (fun w1 H locs hB1 hP hD hS => ?_)
  obtain rfl := hB1
  obtain ⟨q1, q2, q3⟩ := sw_m11 hk1 hR
  exact sw_tI hC hK hP (c_X7_thrown _ _ _ _ _ _ _ _ _ _ _ _ _ _ _ _ _ _ _ _) rfl (q1) 53 rfl hg (q2) hl hf (by decide) dL_law_776 dL_law_778 dL_law_779 dL_law_782 dL_law_784 dL_law_789 dL_law_791 dL_law_794 dL_law_795 dL_law_796 dL_law_797 dL_law_799 dL_law_800 dL_law_801 dL_law_806 (fun ls hl => go _ _ _ (sw_mk (q3) hP hD hS hl (rfl) (rfl) (rfl) (rfl) (rfl) (rfl)))
