/-! the cases of the law, 3 -/
set_option maxRecDepth 100000 in
theorem sw_c_putDown_i {p : Program} {l : Launch} {e : Env} {s : State} {m : MethodId} {below : List Frame} {meth : Method} {c : Code} {H : Heap} {locs : List Loc} {cells slots : Nat} {Q : State → Prop} {ls : Array Slot} {D : sm_G} {b L i : Nat} {xs : Nat → Int32} {ad am : Nat → Nat} {oL oD : Nat} (hbk : sm_isKey (xs (i + 1)) = false) (X : sw_X p l s m meth c b L xs D) (hi : i + 4 ≤ L) (hI : sw_I s D b ad am oL oD (nI i) ls H locs) (hf : cells + 1 ≤ room_1.cells ∧ slots + 6 ≤ room_1.slots) (go : ∀ (H : Heap) (locs : List Loc) (ls : Array Slot), sw_I s D b ad am oL oD (nI i) ls H locs → W p l e room_1 s m #[Value.ref b] below meth c H locs (cells + 1) (slots + 6) Q (F0 m 1616 ls [])) : W p l e room_1 s m #[Value.ref b] below meth c H locs cells slots Q (F0 m 809 ls []) := by
  obtain ⟨hC, hK, hZ, hlt, hX, hbl, hL⟩ := id X
  obtain ⟨hx, hb, hml, hrt, hown, hlk, hts⟩ := id hC
  obtain ⟨P, S, T, Lg, M, C, cp, ph, fo, ne, no, rc, U, nm, Z, cq, th, n2, rd, np, pw, ev, od, gL, gD, hR, hP, hD, hS, hl⟩ := hI
  obtain ⟨⟨hP6, hOK⟩, hph, ⟨hL1, hLk, hfo⟩, ⟨hM1, hMk, hn2, hnR⟩, ⟨hT, hB⟩, ⟨hne, hno⟩, ⟨hrd, hnp, hpw, hpR⟩⟩ := id hR
  have hf0 : cells ≤ room_1.cells ∧ slots ≤ room_1.slots := ⟨Nat.le_of_succ_le hf.1, Nat.le_trans (Nat.le_add_right _ _) hf.2⟩
  have hTk : ∀ k, sm_kv (U.1 k) := fun k => by rw [← hT.1]; exact hB.1 k
  have hC40 : C.2.2.2.2.2.2.2 ≤ 40 := hpR.1.2
  have hcx : C.2.2.2.2.2.1 ≤ C.2.2.2.2.2.2.2 := hpR.1.1
  have hw8 : C.2.2.2.2.2.2.1 ≤ 8 := sm_pR8 hpR
  have hwt : C.2.2.2.2.2.2.1 ≤ 40 := Nat.le_trans hw8 (by decide)
  have hrd40 : rd ≤ 40 := by rw [hrd]; exact hC40
  have hpw40 : pw ≤ 40 := by rw [hpw]; exact hwt
  have hn120 : n2 ≤ 120 := by rw [hn2]; exact hM1
  refine lv_aload_n hx hb dL_law_809 rfl (lv_at hl 1 rfl) ?_
  refine sw_arg X hS (i := i) (j := 1) (jI := 1) (by omega) (by decide) hl 0 rfl 5 rfl dL_law_810 dL_law_811 dL_law_813 dL_law_814 dL_law_815 ?_
  refine lv_aload_n hx hb dL_law_816 rfl (lv_at hl 3 rfl) ?_
  refine sm_cH (rest := []) hC hK hP hD hS hZ (h_putDown (o := oL) (c_X6_putDown_i D ad P S T Lg M C cp ph fo ne no rc (sw_o D oL oD gL gD (sm_w7 D am P S U Lg nm Z cq ph th n2 fo rd np pw ev od rc [])) hlt (xs (i + 1)) hbk) rfl (fun w h => ⟨gL, by rw [h]; rfl⟩) (fun v h => by cases h) (fun E h => (Sum.inl.inj h).symm)) qyL_putDown wl_RL_150 ⟨(Nat.le_of_ble_eq_true rfl), (Nat.le_of_ble_eq_true rfl)⟩ rfl hl.1 rfl (Nat.le_of_ble_eq_true rfl) dL_law_817 hf (fun k1 w1 H locs hB1 hP hD hS => ?_)
  obtain ⟨rfl, cp1, gL1, rfl, hg⟩ := sw_bI (K := 1) (x := 0) (f := fun (a : sm_Cp) (g : Nat → Int64) => sm_w6 D ad P S T Lg M C a ph fo ne no rc (sw_o D oL oD g gD (sm_w7 D am P S U Lg nm Z cq ph th n2 fo rd np pw ev od rc []))) (g0 := gL) (fun _ _ _ => rfl) (fun w h => ⟨cp, h⟩) (sw_hx sw_n1 hB1)
  refine lv_istore (lv' := [(6, .int 1), (0, .ref b), (1, .ref (ad 0)), (2, .ref (am 0)), (3, .ref oL), (4, .ref oD), (5, .int (nI i))]) hx hb dL_law_820 hl (by decide) rfl (fun ls hl => ?_)
  have hP := sw_tP hP
  have hD := sw_tD hD
  refine lv_aload_n hx hb dL_law_822 rfl (lv_at hl 3 rfl) ?_
  refine sw_arg X hS (i := i) (j := 1) (jI := 1) (by omega) (by decide) hl 1 rfl 6 rfl dL_law_823 dL_law_824 dL_law_826 dL_law_827 dL_law_828 ?_
  refine sm_cVCr (rest := []) hC hK hP hD hS hZ (c_X7_putDown_i D am P S U Lg nm Z cq ph th n2 fo rd np pw ev od rc _ (xs (i + 1)) (sm_pRn hpR (fun k e hk => absurd hbk (sw_key e hk)))) qyX7_putDown wl_RL_152 ⟨(Nat.le_of_ble_eq_true rfl), (Nat.le_of_ble_eq_true rfl)⟩ 0 rfl rfl rfl hl.1 rfl (Nat.le_of_ble_eq_true rfl) dL_law_829 hf (fun w1 H locs hB1 hP hD hS => ?_)
  obtain rfl := hB1
  exact sw_tI hC hK hP (c_X7_thrown _ _ _ _ _ _ _ _ _ _ _ _ _ _ _ _ _ _ _ _) rfl (rfl) 53 rfl hg (fun z => absurd z (by decide)) hl hf (by decide) dL_law_832 dL_law_834 dL_law_835 dL_law_838 dL_law_840 dL_law_845 dL_law_847 dL_law_850 dL_law_851 dL_law_852 dL_law_853 dL_law_855 dL_law_856 dL_law_857 dL_law_862 (fun ls hl => go _ _ _ (sw_mk (hR) hP hD hS hl (rfl) (rfl) (rfl) (rfl) (rfl) (rfl)))
set_option maxRecDepth 100000 in
theorem sw_c_putDown {p : Program} {l : Launch} {e : Env} {s : State} {m : MethodId} {below : List Frame} {meth : Method} {c : Code} {H : Heap} {locs : List Loc} {cells slots : Nat} {Q : State → Prop} {ls : Array Slot} {D : sm_G} {b L i : Nat} {xs : Nat → Int32} {ad am : Nat → Nat} {oL oD : Nat} {k : Nat} (hk : k < 40) (e1 : xs (i + 1) = nI k) (X : sw_X p l s m meth c b L xs D) (hi : i + 4 ≤ L) (hI : sw_I s D b ad am oL oD (nI i) ls H locs) (hf : cells + 1 ≤ room_1.cells ∧ slots + 6 ≤ room_1.slots) (go : ∀ (H : Heap) (locs : List Loc) (ls : Array Slot), sw_I s D b ad am oL oD (nI i) ls H locs → W p l e room_1 s m #[Value.ref b] below meth c H locs (cells + 1) (slots + 6) Q (F0 m 1616 ls [])) : W p l e room_1 s m #[Value.ref b] below meth c H locs cells slots Q (F0 m 809 ls []) := by
  obtain ⟨hC, hK, hZ, hlt, hX, hbl, hL⟩ := id X
  obtain ⟨hx, hb, hml, hrt, hown, hlk, hts⟩ := id hC
  obtain ⟨P, S, T, Lg, M, C, cp, ph, fo, ne, no, rc, U, nm, Z, cq, th, n2, rd, np, pw, ev, od, gL, gD, hR, hP, hD, hS, hl⟩ := hI
  obtain ⟨⟨hP6, hOK⟩, hph, ⟨hL1, hLk, hfo⟩, ⟨hM1, hMk, hn2, hnR⟩, ⟨hT, hB⟩, ⟨hne, hno⟩, ⟨hrd, hnp, hpw, hpR⟩⟩ := id hR
  have hf0 : cells ≤ room_1.cells ∧ slots ≤ room_1.slots := ⟨Nat.le_of_succ_le hf.1, Nat.le_trans (Nat.le_add_right _ _) hf.2⟩
  have hTk : ∀ k, sm_kv (U.1 k) := fun k => by rw [← hT.1]; exact hB.1 k
  have hC40 : C.2.2.2.2.2.2.2 ≤ 40 := hpR.1.2
  have hcx : C.2.2.2.2.2.1 ≤ C.2.2.2.2.2.2.2 := hpR.1.1
  have hw8 : C.2.2.2.2.2.2.1 ≤ 8 := sm_pR8 hpR
  have hwt : C.2.2.2.2.2.2.1 ≤ 40 := Nat.le_trans hw8 (by decide)
  have hrd40 : rd ≤ 40 := by rw [hrd]; exact hC40
  have hpw40 : pw ≤ 40 := by rw [hpw]; exact hwt
  have hn120 : n2 ≤ 120 := by rw [hn2]; exact hM1
  have hle : C.2.1 k ≤ C.2.2.1 k := (hpR.2.1 k).1
  have hen : C.2.2.1 k ≤ 40 := Nat.le_trans (hpR.2.1 k).2 hC40
  have hw1 : C.2.2.2.2.1 k = true → 1 ≤ C.2.2.2.2.2.2.1 := fun z => (sm_pRp hpR z).2.2
  by_cases hw : C.2.2.2.2.1 k = true
  · refine lv_aload_n hx hb dL_law_809 rfl (lv_at hl 1 rfl) ?_
    refine sw_arg X hS (i := i) (j := 1) (jI := 1) (by omega) (by decide) hl 0 rfl 5 rfl dL_law_810 dL_law_811 dL_law_813 dL_law_814 dL_law_815 ?_
    rw [e1]
    refine lv_aload_n hx hb dL_law_816 rfl (lv_at hl 3 rfl) ?_
    refine sm_cH (rest := []) hC hK hP hD hS hZ (h_putDown (o := oL) (c_X6_putDown D ad P S T Lg M C cp ph fo ne no rc (sw_o D oL oD gL gD (sm_w7 D am P S U Lg nm Z cq ph th n2 fo rd np pw ev od rc [])) hlt k hk hle hen hw1 hP6) rfl (fun w h => ⟨gL, by obtain ⟨_, rfl⟩ := h; rfl⟩) (fun v h => ⟨_, (sm_rsv h).2⟩) (fun E h => sm_e1 (sm_r1 _) h)) qyL_putDown wl_RL_150 ⟨(Nat.le_of_ble_eq_true rfl), (Nat.le_of_ble_eq_true rfl)⟩ rfl hl.1 rfl (Nat.le_of_ble_eq_true rfl) dL_law_817 hf (fun k1 w1 H locs hB1 hP hD hS => ?_)
    obtain ⟨rfl, cp1, gL1, rfl, hg⟩ := sw_bI (K := (sm_k1 (C.2.2.2.2.1 k))) (x := (nI (sm_pdG P C (C.2.2.2.1 k) (C.2.2.1 k - C.2.1 k) (C.2.1 k) T 0).2)) (f := fun (a : sm_Cp) (g : Nat → Int64) => sm_w6 D ad P S (if C.2.2.2.2.1 k = true then (sm_pdG P C (C.2.2.2.1 k) (C.2.2.1 k - C.2.1 k) (C.2.1 k) T 0).1 else T) Lg M (if C.2.2.2.2.1 k = true then sm_finC C k else C) a ph fo ne no rc (sw_o D oL oD g gD (sm_w7 D am P S U Lg nm Z cq ph th n2 fo rd np pw ev od rc []))) (g0 := gL) (fun _ _ _ => rfl) (fun w h => h) (sm_h1 (sm_r1 _) hB1)
    refine lv_istore (lv' := [(6, .int (sm_k1 (C.2.2.2.2.1 k))), (0, .ref b), (1, .ref (ad 0)), (2, .ref (am 0)), (3, .ref oL), (4, .ref oD), (5, .int (nI i))]) hx hb dL_law_820 hl (by decide) rfl (fun ls hl => ?_)
    have hP := sw_tP hP
    have hD := sw_tD hD
    refine lv_aload_n hx hb dL_law_822 rfl (lv_at hl 3 rfl) ?_
    refine sw_arg X hS (i := i) (j := 1) (jI := 1) (by omega) (by decide) hl 1 rfl 6 rfl dL_law_823 dL_law_824 dL_law_826 dL_law_827 dL_law_828 ?_
    rw [e1]
    refine sm_cVCr (rest := []) hC hK hP hD hS hZ (c_X7_putDown D am P S U Lg nm Z cq ph th n2 fo rd np pw ev od rc _ (nI k) (sm_nIp (by omega)) (sm_pRp hpR hw).1 (by rw [hpw]; exact hw1 hw) hP6 hOK hTk) qyX7_putDown wl_RL_152 ⟨(Nat.le_of_ble_eq_true rfl), (Nat.le_of_ble_eq_true rfl)⟩ 0 rfl rfl rfl hl.1 rfl (Nat.le_of_ble_eq_true rfl) dL_law_829 hf (fun w1 H locs hB1 hP hD hS => ?_)
    obtain ⟨cq1, rfl⟩ := hB1
    exact sw_tI hC hK hP (c_X7_thrown _ _ _ _ _ _ _ _ _ _ _ _ _ _ _ _ _ _ _ _) rfl (by rw [hw]; rfl) 53 rfl hg (fun _ => congrArg nI (sm_pd2 hpR hw hT 0).2) hl hf (by decide) dL_law_832 dL_law_834 dL_law_835 dL_law_838 dL_law_840 dL_law_845 dL_law_847 dL_law_850 dL_law_851 dL_law_852 dL_law_853 dL_law_855 dL_law_856 dL_law_857 dL_law_862 (fun ls hl => go _ _ _ (sw_mk (by simp only [if_pos hw]; exact sm_RlPd hw hR) hP hD hS hl (rfl) (rfl) (rfl) (rfl) (rfl) (rfl)))
  · refine lv_aload_n hx hb dL_law_809 rfl (lv_at hl 1 rfl) ?_
    refine sw_arg X hS (i := i) (j := 1) (jI := 1) (by omega) (by decide) hl 0 rfl 5 rfl dL_law_810 dL_law_811 dL_law_813 dL_law_814 dL_law_815 ?_
    rw [e1]
    refine lv_aload_n hx hb dL_law_816 rfl (lv_at hl 3 rfl) ?_
    refine sm_cH (rest := []) hC hK hP hD hS hZ (h_putDown (o := oL) (c_X6_putDown D ad P S T Lg M C cp ph fo ne no rc (sw_o D oL oD gL gD (sm_w7 D am P S U Lg nm Z cq ph th n2 fo rd np pw ev od rc [])) hlt k hk hle hen hw1 hP6) rfl (fun w h => ⟨gL, by obtain ⟨_, rfl⟩ := h; rfl⟩) (fun v h => ⟨_, (sm_rsv h).2⟩) (fun E h => sm_e1 (sm_r1 _) h)) qyL_putDown wl_RL_150 ⟨(Nat.le_of_ble_eq_true rfl), (Nat.le_of_ble_eq_true rfl)⟩ rfl hl.1 rfl (Nat.le_of_ble_eq_true rfl) dL_law_817 hf (fun k1 w1 H locs hB1 hP hD hS => ?_)
    obtain ⟨rfl, cp1, gL1, rfl, hg⟩ := sw_bI (K := (sm_k1 (C.2.2.2.2.1 k))) (x := (nI (sm_pdG P C (C.2.2.2.1 k) (C.2.2.1 k - C.2.1 k) (C.2.1 k) T 0).2)) (f := fun (a : sm_Cp) (g : Nat → Int64) => sm_w6 D ad P S (if C.2.2.2.2.1 k = true then (sm_pdG P C (C.2.2.2.1 k) (C.2.2.1 k - C.2.1 k) (C.2.1 k) T 0).1 else T) Lg M (if C.2.2.2.2.1 k = true then sm_finC C k else C) a ph fo ne no rc (sw_o D oL oD g gD (sm_w7 D am P S U Lg nm Z cq ph th n2 fo rd np pw ev od rc []))) (g0 := gL) (fun _ _ _ => rfl) (fun w h => h) (sm_h1 (sm_r1 _) hB1)
    refine lv_istore (lv' := [(6, .int (sm_k1 (C.2.2.2.2.1 k))), (0, .ref b), (1, .ref (ad 0)), (2, .ref (am 0)), (3, .ref oL), (4, .ref oD), (5, .int (nI i))]) hx hb dL_law_820 hl (by decide) rfl (fun ls hl => ?_)
    have hP := sw_tP hP
    have hD := sw_tD hD
    refine lv_aload_n hx hb dL_law_822 rfl (lv_at hl 3 rfl) ?_
    refine sw_arg X hS (i := i) (j := 1) (jI := 1) (by omega) (by decide) hl 1 rfl 6 rfl dL_law_823 dL_law_824 dL_law_826 dL_law_827 dL_law_828 ?_
    rw [e1]
    refine sm_cVCr (rest := []) hC hK hP hD hS hZ (c_X7_putDown_i D am P S U Lg nm Z cq ph th n2 fo rd np pw ev od rc _ (nI k) (sm_pRn hpR (fun k2 e2 hk2 => by rw [← sm_Neq e2 (by omega) (by omega)]; exact Bool.eq_false_iff.mpr hw))) qyX7_putDown wl_RL_152 ⟨(Nat.le_of_ble_eq_true rfl), (Nat.le_of_ble_eq_true rfl)⟩ 0 rfl rfl rfl hl.1 rfl (Nat.le_of_ble_eq_true rfl) dL_law_829 hf (fun w1 H locs hB1 hP hD hS => ?_)
    obtain rfl := hB1
    exact sw_tI hC hK hP (c_X7_thrown _ _ _ _ _ _ _ _ _ _ _ _ _ _ _ _ _ _ _ _) rfl (by rw [Bool.eq_false_iff.mpr hw]; rfl) 53 rfl hg (fun z => absurd z (by rw [Bool.eq_false_iff.mpr hw]; decide)) hl hf (by decide) dL_law_832 dL_law_834 dL_law_835 dL_law_838 dL_law_840 dL_law_845 dL_law_847 dL_law_850 dL_law_851 dL_law_852 dL_law_853 dL_law_855 dL_law_856 dL_law_857 dL_law_862 (fun ls hl => go _ _ _ (sw_mk (by simp only [if_neg hw]; exact hR) hP hD hS hl (rfl) (rfl) (rfl) (rfl) (rfl) (rfl)))
set_option maxRecDepth 100000 in
theorem sw_c_follow_i {p : Program} {l : Launch} {e : Env} {s : State} {m : MethodId} {below : List Frame} {meth : Method} {c : Code} {H : Heap} {locs : List Loc} {cells slots : Nat} {Q : State → Prop} {ls : Array Slot} {D : sm_G} {b L i : Nat} {xs : Nat → Int32} {ad am : Nat → Nat} {oL oD : Nat} (hbk : sm_bt 1 120 (xs (i + 1)) = false) (X : sw_X p l s m meth c b L xs D) (hi : i + 4 ≤ L) (hI : sw_I s D b ad am oL oD (nI i) ls H locs) (hf : cells + 1 ≤ room_1.cells ∧ slots + 6 ≤ room_1.slots) (go : ∀ (H : Heap) (locs : List Loc) (ls : Array Slot), sw_I s D b ad am oL oD (nI i) ls H locs → W p l e room_1 s m #[Value.ref b] below meth c H locs (cells + 1) (slots + 6) Q (F0 m 1616 ls [])) : W p l e room_1 s m #[Value.ref b] below meth c H locs cells slots Q (F0 m 865 ls []) := by
  obtain ⟨hC, hK, hZ, hlt, hX, hbl, hL⟩ := id X
  obtain ⟨hx, hb, hml, hrt, hown, hlk, hts⟩ := id hC
  obtain ⟨P, S, T, Lg, M, C, cp, ph, fo, ne, no, rc, U, nm, Z, cq, th, n2, rd, np, pw, ev, od, gL, gD, hR, hP, hD, hS, hl⟩ := hI
  obtain ⟨⟨hP6, hOK⟩, hph, ⟨hL1, hLk, hfo⟩, ⟨hM1, hMk, hn2, hnR⟩, ⟨hT, hB⟩, ⟨hne, hno⟩, ⟨hrd, hnp, hpw, hpR⟩⟩ := id hR
  have hf0 : cells ≤ room_1.cells ∧ slots ≤ room_1.slots := ⟨Nat.le_of_succ_le hf.1, Nat.le_trans (Nat.le_add_right _ _) hf.2⟩
  have hTk : ∀ k, sm_kv (U.1 k) := fun k => by rw [← hT.1]; exact hB.1 k
  have hC40 : C.2.2.2.2.2.2.2 ≤ 40 := hpR.1.2
  have hcx : C.2.2.2.2.2.1 ≤ C.2.2.2.2.2.2.2 := hpR.1.1
  have hw8 : C.2.2.2.2.2.2.1 ≤ 8 := sm_pR8 hpR
  have hwt : C.2.2.2.2.2.2.1 ≤ 40 := Nat.le_trans hw8 (by decide)
  have hrd40 : rd ≤ 40 := by rw [hrd]; exact hC40
  have hpw40 : pw ≤ 40 := by rw [hpw]; exact hwt
  have hn120 : n2 ≤ 120 := by rw [hn2]; exact hM1
  refine lv_aload_n hx hb dL_law_865 rfl (lv_at hl 1 rfl) ?_
  refine sw_arg X hS (i := i) (j := 1) (jI := 1) (by omega) (by decide) hl 0 rfl 5 rfl dL_law_866 dL_law_867 dL_law_869 dL_law_870 dL_law_871 ?_
  refine lv_aload_n hx hb dL_law_872 rfl (lv_at hl 3 rfl) ?_
  refine sm_cH (rest := []) hC hK hP hD hS hZ (h_follow (o := oL) (c_X6_follow_i D ad P S T Lg M C cp ph fo ne no rc (sw_o D oL oD gL gD (sm_w7 D am P S U Lg nm Z cq ph th n2 fo rd np pw ev od rc [])) hlt (xs (i + 1)) hbk) rfl (fun w h => ⟨gL, by rw [h]; rfl⟩) (fun v h => by cases h) (fun E h => Or.inl (Sum.inl.inj h).symm)) qyL_follow wl_RL_153 ⟨(Nat.le_of_ble_eq_true rfl), (Nat.le_of_ble_eq_true rfl)⟩ rfl hl.1 rfl (Nat.le_of_ble_eq_true rfl) dL_law_873 hf (fun k1 w1 H locs hB1 hP hD hS => ?_)
  obtain ⟨rfl, cp1, gL1, rfl, hg⟩ := sw_bI (K := 1) (x := 0) (f := fun (a : sm_Cp) (g : Nat → Int64) => sm_w6 D ad P S T Lg M C a ph fo ne no rc (sw_o D oL oD g gD (sm_w7 D am P S U Lg nm Z cq ph th n2 fo rd np pw ev od rc []))) (g0 := gL) (fun _ _ _ => rfl) (fun w h => ⟨cp, h⟩) (sw_hx (sw_n2 sw_dAS) hB1)
  refine lv_istore (lv' := [(6, .int 1), (0, .ref b), (1, .ref (ad 0)), (2, .ref (am 0)), (3, .ref oL), (4, .ref oD), (5, .int (nI i))]) hx hb dL_law_876 hl (by decide) rfl (fun ls hl => ?_)
  have hP := sw_tP hP
  have hD := sw_tD hD
  refine lv_aload_n hx hb dL_law_878 rfl (lv_at hl 3 rfl) ?_
  refine sw_arg X hS (i := i) (j := 1) (jI := 1) (by omega) (by decide) hl 1 rfl 6 rfl dL_law_879 dL_law_880 dL_law_882 dL_law_883 dL_law_884 ?_
  refine sm_cVCr (rest := []) hC hK hP hD hS hZ (c_X7_follow_i D am P S U Lg nm Z cq ph th n2 fo rd np pw ev od rc _ (xs (i + 1)) hbk) qyX7_follow wl_RL_155 ⟨(Nat.le_of_ble_eq_true rfl), (Nat.le_of_ble_eq_true rfl)⟩ 0 rfl rfl rfl hl.1 rfl (Nat.le_of_ble_eq_true rfl) dL_law_885 hf (fun w1 H locs hB1 hP hD hS => ?_)
  obtain rfl := hB1
  exact sw_tI hC hK hP (c_X7_thrown _ _ _ _ _ _ _ _ _ _ _ _ _ _ _ _ _ _ _ _) rfl (rfl) 53 rfl hg (fun z => absurd z (by decide)) hl hf (by decide) dL_law_888 dL_law_890 dL_law_891 dL_law_894 dL_law_896 dL_law_901 dL_law_903 dL_law_906 dL_law_907 dL_law_908 dL_law_909 dL_law_911 dL_law_912 dL_law_913 dL_law_918 (fun ls hl => go _ _ _ (sw_mk (hR) hP hD hS hl (rfl) (rfl) (rfl) (rfl) (rfl) (rfl)))
set_option maxRecDepth 100000 in
theorem sw_c_follow {p : Program} {l : Launch} {e : Env} {s : State} {m : MethodId} {below : List Frame} {meth : Method} {c : Code} {H : Heap} {locs : List Loc} {cells slots : Nat} {Q : State → Prop} {ls : Array Slot} {D : sm_G} {b L i : Nat} {xs : Nat → Int32} {ad am : Nat → Nat} {oL oD : Nat} {k : Nat} (hk1 : ¬ k < 1) (hk2 : ¬ 120 < k) (e1 : xs (i + 1) = nI k) (X : sw_X p l s m meth c b L xs D) (hi : i + 4 ≤ L) (hI : sw_I s D b ad am oL oD (nI i) ls H locs) (hf : cells + 1 ≤ room_1.cells ∧ slots + 6 ≤ room_1.slots) (go : ∀ (H : Heap) (locs : List Loc) (ls : Array Slot), sw_I s D b ad am oL oD (nI i) ls H locs → W p l e room_1 s m #[Value.ref b] below meth c H locs (cells + 1) (slots + 6) Q (F0 m 1616 ls [])) : W p l e room_1 s m #[Value.ref b] below meth c H locs cells slots Q (F0 m 865 ls []) := by
  obtain ⟨hC, hK, hZ, hlt, hX, hbl, hL⟩ := id X
  obtain ⟨hx, hb, hml, hrt, hown, hlk, hts⟩ := id hC
  obtain ⟨P, S, T, Lg, M, C, cp, ph, fo, ne, no, rc, U, nm, Z, cq, th, n2, rd, np, pw, ev, od, gL, gD, hR, hP, hD, hS, hl⟩ := hI
  obtain ⟨⟨hP6, hOK⟩, hph, ⟨hL1, hLk, hfo⟩, ⟨hM1, hMk, hn2, hnR⟩, ⟨hT, hB⟩, ⟨hne, hno⟩, ⟨hrd, hnp, hpw, hpR⟩⟩ := id hR
  have hf0 : cells ≤ room_1.cells ∧ slots ≤ room_1.slots := ⟨Nat.le_of_succ_le hf.1, Nat.le_trans (Nat.le_add_right _ _) hf.2⟩
  have hTk : ∀ k, sm_kv (U.1 k) := fun k => by rw [← hT.1]; exact hB.1 k
  have hC40 : C.2.2.2.2.2.2.2 ≤ 40 := hpR.1.2
  have hcx : C.2.2.2.2.2.1 ≤ C.2.2.2.2.2.2.2 := hpR.1.1
  have hw8 : C.2.2.2.2.2.2.1 ≤ 8 := sm_pR8 hpR
  have hwt : C.2.2.2.2.2.2.1 ≤ 40 := Nat.le_trans hw8 (by decide)
  have hrd40 : rd ≤ 40 := by rw [hrd]; exact hC40
  have hpw40 : pw ≤ 40 := by rw [hpw]; exact hwt
  have hn120 : n2 ≤ 120 := by rw [hn2]; exact hM1
  refine lv_aload_n hx hb dL_law_865 rfl (lv_at hl 1 rfl) ?_
  refine sw_arg X hS (i := i) (j := 1) (jI := 1) (by omega) (by decide) hl 0 rfl 5 rfl dL_law_866 dL_law_867 dL_law_869 dL_law_870 dL_law_871 ?_
  rw [e1]
  refine lv_aload_n hx hb dL_law_872 rfl (lv_at hl 3 rfl) ?_
  refine sm_cH (rest := []) hC hK hP hD hS hZ (h_follow (o := oL) (c_X6_follow D ad P S T Lg M C cp ph fo ne no rc (sw_o D oL oD gL gD (sm_w7 D am P S U Lg nm Z cq ph th n2 fo rd np pw ev od rc [])) hlt k hk1 hk2 hfo hL1 hLk hP6) rfl (fun w h => ⟨gL, by obtain ⟨_, rfl⟩ := h; rfl⟩) (fun v h => ⟨_, (sm_rsv h).2⟩) (fun E h => sm_e2 (sm_rFl _) h)) qyL_follow wl_RL_153 ⟨(Nat.le_of_ble_eq_true rfl), (Nat.le_of_ble_eq_true rfl)⟩ rfl hl.1 rfl (Nat.le_of_ble_eq_true rfl) dL_law_873 hf (fun k1 w1 H locs hB1 hP hD hS => ?_)
  obtain ⟨rfl, cp1, gL1, rfl, hg⟩ := sw_bI (K := (sm_kFl ph)) (x := (nI (min k (Lg.1 - fo)))) (f := fun (a : sm_Cp) (g : Nat → Int64) => sm_w6 D ad P S (if sm_kFl ph = 0 then sm_foG P Lg (min k (Lg.1 - fo)) T fo else T) Lg M C a ph (if sm_kFl ph = 0 then fo + min k (Lg.1 - fo) else fo) ne no rc (sw_o D oL oD g gD (sm_w7 D am P S U Lg nm Z cq ph th n2 fo rd np pw ev od rc []))) (g0 := gL) (fun _ _ _ => rfl) (fun w h => h) (sm_h2 sw_dAS (sm_rFl _) hB1)
  refine lv_istore (lv' := [(6, .int (sm_kFl ph)), (0, .ref b), (1, .ref (ad 0)), (2, .ref (am 0)), (3, .ref oL), (4, .ref oD), (5, .int (nI i))]) hx hb dL_law_876 hl (by decide) rfl (fun ls hl => ?_)
  have hP := sw_tP hP
  have hD := sw_tD hD
  refine lv_aload_n hx hb dL_law_878 rfl (lv_at hl 3 rfl) ?_
  refine sw_arg X hS (i := i) (j := 1) (jI := 1) (by omega) (by decide) hl 1 rfl 6 rfl dL_law_879 dL_law_880 dL_law_882 dL_law_883 dL_law_884 ?_
  rw [e1]
  refine sm_cVCr (rest := []) hC hK hP hD hS hZ (c_X7_follow D am P S U Lg nm Z cq ph th n2 fo rd np pw ev od rc _ k hk1 hk2 hfo hL1 hLk hP6 hOK hTk) qyX7_follow wl_RL_155 ⟨(Nat.le_of_ble_eq_true rfl), (Nat.le_of_ble_eq_true rfl)⟩ 0 rfl rfl rfl hl.1 rfl (Nat.le_of_ble_eq_true rfl) dL_law_885 hf (fun w1 H locs hB1 hP hD hS => ?_)
  obtain ⟨cq1, rfl⟩ := hB1
  exact sw_tI hC hK hP (c_X7_thrown _ _ _ _ _ _ _ _ _ _ _ _ _ _ _ _ _ _ _ _) rfl (rfl) 53 rfl hg (fun z => if_pos z) hl hf (by decide) dL_law_888 dL_law_890 dL_law_891 dL_law_894 dL_law_896 dL_law_901 dL_law_903 dL_law_906 dL_law_907 dL_law_908 dL_law_909 dL_law_911 dL_law_912 dL_law_913 dL_law_918 (fun ls hl => go _ _ _ (sw_mk (sw_m13 hR) hP hD hS hl (rfl) (rfl) (rfl) (rfl) (rfl) (rfl)))
set_option maxRecDepth 100000 in
theorem sw_c_left {p : Program} {l : Launch} {e : Env} {s : State} {m : MethodId} {below : List Frame} {meth : Method} {c : Code} {H : Heap} {locs : List Loc} {cells slots : Nat} {Q : State → Prop} {ls : Array Slot} {D : sm_G} {b L i : Nat} {xs : Nat → Int32} {ad am : Nat → Nat} {oL oD : Nat} (X : sw_X p l s m meth c b L xs D) (hi : i + 4 ≤ L) (hI : sw_I s D b ad am oL oD (nI i) ls H locs) (hf : cells + 1 ≤ room_1.cells ∧ slots + 6 ≤ room_1.slots) (go : ∀ (H : Heap) (locs : List Loc) (ls : Array Slot), sw_I s D b ad am oL oD (nI i) ls H locs → W p l e room_1 s m #[Value.ref b] below meth c H locs (cells + 1) (slots + 6) Q (F0 m 1616 ls [])) : W p l e room_1 s m #[Value.ref b] below meth c H locs cells slots Q (F0 m 921 ls []) := by
  obtain ⟨hC, hK, hZ, hlt, hX, hbl, hL⟩ := id X
  obtain ⟨hx, hb, hml, hrt, hown, hlk, hts⟩ := id hC
  obtain ⟨P, S, T, Lg, M, C, cp, ph, fo, ne, no, rc, U, nm, Z, cq, th, n2, rd, np, pw, ev, od, gL, gD, hR, hP, hD, hS, hl⟩ := hI
  obtain ⟨⟨hP6, hOK⟩, hph, ⟨hL1, hLk, hfo⟩, ⟨hM1, hMk, hn2, hnR⟩, ⟨hT, hB⟩, ⟨hne, hno⟩, ⟨hrd, hnp, hpw, hpR⟩⟩ := id hR
  have hf0 : cells ≤ room_1.cells ∧ slots ≤ room_1.slots := ⟨Nat.le_of_succ_le hf.1, Nat.le_trans (Nat.le_add_right _ _) hf.2⟩
  have hTk : ∀ k, sm_kv (U.1 k) := fun k => by rw [← hT.1]; exact hB.1 k
  have hC40 : C.2.2.2.2.2.2.2 ≤ 40 := hpR.1.2
  have hcx : C.2.2.2.2.2.1 ≤ C.2.2.2.2.2.2.2 := hpR.1.1
  have hw8 : C.2.2.2.2.2.2.1 ≤ 8 := sm_pR8 hpR
  have hwt : C.2.2.2.2.2.2.1 ≤ 40 := Nat.le_trans hw8 (by decide)
  have hrd40 : rd ≤ 40 := by rw [hrd]; exact hC40
  have hpw40 : pw ≤ 40 := by rw [hpw]; exact hwt
  have hn120 : n2 ≤ 120 := by rw [hn2]; exact hM1
  refine lv_aload_n hx hb dL_law_921 rfl (lv_at hl 1 rfl) ?_
  refine sm_cVPr (rest := []) hC hK hP (c_X6_left D ad P S T Lg M C cp ph fo ne no rc (sw_o D oL oD gL gD (sm_w7 D am P S U Lg nm Z cq ph th n2 fo rd np pw ev od rc [])) hC40) qyX6_left wl_RL_156 ⟨(Nat.le_of_ble_eq_true rfl), (Nat.le_of_ble_eq_true rfl)⟩ 0 rfl rfl rfl hl.1 rfl (Nat.le_of_ble_eq_true rfl) dL_law_922 hf0 ?_
  have hP := sw_tP hP
  have hD := sw_tD hD
  refine lv_aload_n hx hb dL_law_925 rfl (lv_at hl 2 rfl) ?_
  refine sm_cVCr (rest := [.int (nI (40 - C.2.2.2.2.2.2.2))]) hC hK hP hD hS hZ (c_X7_left D am P S U Lg nm Z cq ph th n2 fo rd np pw ev od rc _ hrd40) qyX7_left wl_RL_159 ⟨(Nat.le_of_ble_eq_true rfl), (Nat.le_of_ble_eq_true rfl)⟩ 0 rfl rfl rfl hl.1 rfl (Nat.le_of_ble_eq_true rfl) dL_law_926 hf0 (fun w1 H locs hB1 hP hD hS => ?_)
  obtain rfl := hB1
  refine lv_icmp_eq (tgt := 1616) hx hb dL_law_929 (by decide) (fun _ => ?_) (fun z => absurd (by rw [hrd]) z)
  exact W.widen (k := cells + 1) (n := slots + 6) (Nat.le_succ _) (Nat.le_add_right _ _) (go _ _ _ (sw_mk hR hP hD hS hl rfl rfl rfl rfl rfl rfl))
set_option maxRecDepth 100000 in
theorem sw_c_behind {p : Program} {l : Launch} {e : Env} {s : State} {m : MethodId} {below : List Frame} {meth : Method} {c : Code} {H : Heap} {locs : List Loc} {cells slots : Nat} {Q : State → Prop} {ls : Array Slot} {D : sm_G} {b L i : Nat} {xs : Nat → Int32} {ad am : Nat → Nat} {oL oD : Nat} (X : sw_X p l s m meth c b L xs D) (hi : i + 4 ≤ L) (hI : sw_I s D b ad am oL oD (nI i) ls H locs) (hf : cells + 1 ≤ room_1.cells ∧ slots + 6 ≤ room_1.slots) (go : ∀ (H : Heap) (locs : List Loc) (ls : Array Slot), sw_I s D b ad am oL oD (nI i) ls H locs → W p l e room_1 s m #[Value.ref b] below meth c H locs (cells + 1) (slots + 6) Q (F0 m 1616 ls [])) : W p l e room_1 s m #[Value.ref b] below meth c H locs cells slots Q (F0 m 934 ls []) := by
  obtain ⟨hC, hK, hZ, hlt, hX, hbl, hL⟩ := id X
  obtain ⟨hx, hb, hml, hrt, hown, hlk, hts⟩ := id hC
  obtain ⟨P, S, T, Lg, M, C, cp, ph, fo, ne, no, rc, U, nm, Z, cq, th, n2, rd, np, pw, ev, od, gL, gD, hR, hP, hD, hS, hl⟩ := hI
  obtain ⟨⟨hP6, hOK⟩, hph, ⟨hL1, hLk, hfo⟩, ⟨hM1, hMk, hn2, hnR⟩, ⟨hT, hB⟩, ⟨hne, hno⟩, ⟨hrd, hnp, hpw, hpR⟩⟩ := id hR
  have hf0 : cells ≤ room_1.cells ∧ slots ≤ room_1.slots := ⟨Nat.le_of_succ_le hf.1, Nat.le_trans (Nat.le_add_right _ _) hf.2⟩
  have hTk : ∀ k, sm_kv (U.1 k) := fun k => by rw [← hT.1]; exact hB.1 k
  have hC40 : C.2.2.2.2.2.2.2 ≤ 40 := hpR.1.2
  have hcx : C.2.2.2.2.2.1 ≤ C.2.2.2.2.2.2.2 := hpR.1.1
  have hw8 : C.2.2.2.2.2.2.1 ≤ 8 := sm_pR8 hpR
  have hwt : C.2.2.2.2.2.2.1 ≤ 40 := Nat.le_trans hw8 (by decide)
  have hrd40 : rd ≤ 40 := by rw [hrd]; exact hC40
  have hpw40 : pw ≤ 40 := by rw [hpw]; exact hwt
  have hn120 : n2 ≤ 120 := by rw [hn2]; exact hM1
  refine lv_aload_n hx hb dL_law_934 rfl (lv_at hl 1 rfl) ?_
  refine sm_cVPr (rest := []) hC hK hP (c_X6_behind D ad P S T Lg M C cp ph fo ne no rc (sw_o D oL oD gL gD (sm_w7 D am P S U Lg nm Z cq ph th n2 fo rd np pw ev od rc [])) hfo) qyX6_behind wl_RL_160 ⟨(Nat.le_of_ble_eq_true rfl), (Nat.le_of_ble_eq_true rfl)⟩ 0 rfl rfl rfl hl.1 rfl (Nat.le_of_ble_eq_true rfl) dL_law_935 hf0 ?_
  have hP := sw_tP hP
  have hD := sw_tD hD
  refine lv_aload_n hx hb dL_law_938 rfl (lv_at hl 2 rfl) ?_
  refine sm_cVCr (rest := [.int (nI (Lg.1 - fo))]) hC hK hP hD hS hZ (c_X7_behind D am P S U Lg nm Z cq ph th n2 fo rd np pw ev od rc _ hfo) qyX7_behind wl_RL_163 ⟨(Nat.le_of_ble_eq_true rfl), (Nat.le_of_ble_eq_true rfl)⟩ 0 rfl rfl rfl hl.1 rfl (Nat.le_of_ble_eq_true rfl) dL_law_939 hf0 (fun w1 H locs hB1 hP hD hS => ?_)
  obtain rfl := hB1
  refine lv_icmp_eq (tgt := 1616) hx hb dL_law_942 (by decide) (fun _ => ?_) (fun z => absurd (rfl) z)
  exact W.widen (k := cells + 1) (n := slots + 6) (Nat.le_succ _) (Nat.le_add_right _ _) (go _ _ _ (sw_mk hR hP hD hS hl rfl rfl rfl rfl rfl rfl))
set_option maxRecDepth 100000 in
theorem sw_c_parts {p : Program} {l : Launch} {e : Env} {s : State} {m : MethodId} {below : List Frame} {meth : Method} {c : Code} {H : Heap} {locs : List Loc} {cells slots : Nat} {Q : State → Prop} {ls : Array Slot} {D : sm_G} {b L i : Nat} {xs : Nat → Int32} {ad am : Nat → Nat} {oL oD : Nat} (X : sw_X p l s m meth c b L xs D) (hi : i + 4 ≤ L) (hI : sw_I s D b ad am oL oD (nI i) ls H locs) (hf : cells + 1 ≤ room_1.cells ∧ slots + 6 ≤ room_1.slots) (go : ∀ (H : Heap) (locs : List Loc) (ls : Array Slot), sw_I s D b ad am oL oD (nI i) ls H locs → W p l e room_1 s m #[Value.ref b] below meth c H locs (cells + 1) (slots + 6) Q (F0 m 1616 ls [])) : W p l e room_1 s m #[Value.ref b] below meth c H locs cells slots Q (F0 m 947 ls []) := by
  obtain ⟨hC, hK, hZ, hlt, hX, hbl, hL⟩ := id X
  obtain ⟨hx, hb, hml, hrt, hown, hlk, hts⟩ := id hC
  obtain ⟨P, S, T, Lg, M, C, cp, ph, fo, ne, no, rc, U, nm, Z, cq, th, n2, rd, np, pw, ev, od, gL, gD, hR, hP, hD, hS, hl⟩ := hI
  obtain ⟨⟨hP6, hOK⟩, hph, ⟨hL1, hLk, hfo⟩, ⟨hM1, hMk, hn2, hnR⟩, ⟨hT, hB⟩, ⟨hne, hno⟩, ⟨hrd, hnp, hpw, hpR⟩⟩ := id hR
  have hf0 : cells ≤ room_1.cells ∧ slots ≤ room_1.slots := ⟨Nat.le_of_succ_le hf.1, Nat.le_trans (Nat.le_add_right _ _) hf.2⟩
  have hTk : ∀ k, sm_kv (U.1 k) := fun k => by rw [← hT.1]; exact hB.1 k
  have hC40 : C.2.2.2.2.2.2.2 ≤ 40 := hpR.1.2
  have hcx : C.2.2.2.2.2.1 ≤ C.2.2.2.2.2.2.2 := hpR.1.1
  have hw8 : C.2.2.2.2.2.2.1 ≤ 8 := sm_pR8 hpR
  have hwt : C.2.2.2.2.2.2.1 ≤ 40 := Nat.le_trans hw8 (by decide)
  have hrd40 : rd ≤ 40 := by rw [hrd]; exact hC40
  have hpw40 : pw ≤ 40 := by rw [hpw]; exact hwt
  have hn120 : n2 ≤ 120 := by rw [hn2]; exact hM1
  refine lv_aload_n hx hb dL_law_947 rfl (lv_at hl 1 rfl) ?_
  refine sm_cVPr (rest := []) hC hK hP (c_X6_parts D ad P S T Lg M C cp ph fo ne no rc (sw_o D oL oD gL gD (sm_w7 D am P S U Lg nm Z cq ph th n2 fo rd np pw ev od rc []))) qyX6_parts wl_RL_164 ⟨(Nat.le_of_ble_eq_true rfl), (Nat.le_of_ble_eq_true rfl)⟩ 0 rfl rfl rfl hl.1 rfl (Nat.le_of_ble_eq_true rfl) dL_law_948 hf0 ?_
  have hP := sw_tP hP
  have hD := sw_tD hD
  refine lv_aload_n hx hb dL_law_951 rfl (lv_at hl 2 rfl) ?_
  refine sm_cVCr (rest := [.int (nI C.2.2.2.2.2.2.1)]) hC hK hP hD hS hZ (c_X7_parts D am P S U Lg nm Z cq ph th n2 fo rd np pw ev od rc _) qyX7_parts wl_RL_167 ⟨(Nat.le_of_ble_eq_true rfl), (Nat.le_of_ble_eq_true rfl)⟩ 0 rfl rfl rfl hl.1 rfl (Nat.le_of_ble_eq_true rfl) dL_law_952 hf0 (fun w1 H locs hB1 hP hD hS => ?_)
  obtain rfl := hB1
  refine lv_icmp_eq (tgt := 1616) hx hb dL_law_955 (by decide) (fun _ => ?_) (fun z => absurd (by rw [hpw]) z)
  exact W.widen (k := cells + 1) (n := slots + 6) (Nat.le_succ _) (Nat.le_add_right _ _) (go _ _ _ (sw_mk hR hP hD hS hl rfl rfl rfl rfl rfl rfl))
set_option maxRecDepth 100000 in
theorem sw_c_state_i {p : Program} {l : Launch} {e : Env} {s : State} {m : MethodId} {below : List Frame} {meth : Method} {c : Code} {H : Heap} {locs : List Loc} {cells slots : Nat} {Q : State → Prop} {ls : Array Slot} {D : sm_G} {b L i : Nat} {xs : Nat → Int32} {ad am : Nat → Nat} {oL oD : Nat} (hbk : sm_isKey (xs (i + 1)) = false) (X : sw_X p l s m meth c b L xs D) (hi : i + 4 ≤ L) (hI : sw_I s D b ad am oL oD (nI i) ls H locs) (hf : cells + 1 ≤ room_1.cells ∧ slots + 6 ≤ room_1.slots) (go : ∀ (H : Heap) (locs : List Loc) (ls : Array Slot), sw_I s D b ad am oL oD (nI i) ls H locs → W p l e room_1 s m #[Value.ref b] below meth c H locs (cells + 1) (slots + 6) Q (F0 m 1616 ls [])) : W p l e room_1 s m #[Value.ref b] below meth c H locs cells slots Q (F0 m 960 ls []) := by
  obtain ⟨hC, hK, hZ, hlt, hX, hbl, hL⟩ := id X
  obtain ⟨hx, hb, hml, hrt, hown, hlk, hts⟩ := id hC
  obtain ⟨P, S, T, Lg, M, C, cp, ph, fo, ne, no, rc, U, nm, Z, cq, th, n2, rd, np, pw, ev, od, gL, gD, hR, hP, hD, hS, hl⟩ := hI
  obtain ⟨⟨hP6, hOK⟩, hph, ⟨hL1, hLk, hfo⟩, ⟨hM1, hMk, hn2, hnR⟩, ⟨hT, hB⟩, ⟨hne, hno⟩, ⟨hrd, hnp, hpw, hpR⟩⟩ := id hR
  have hf0 : cells ≤ room_1.cells ∧ slots ≤ room_1.slots := ⟨Nat.le_of_succ_le hf.1, Nat.le_trans (Nat.le_add_right _ _) hf.2⟩
  have hTk : ∀ k, sm_kv (U.1 k) := fun k => by rw [← hT.1]; exact hB.1 k
  have hC40 : C.2.2.2.2.2.2.2 ≤ 40 := hpR.1.2
  have hcx : C.2.2.2.2.2.1 ≤ C.2.2.2.2.2.2.2 := hpR.1.1
  have hw8 : C.2.2.2.2.2.2.1 ≤ 8 := sm_pR8 hpR
  have hwt : C.2.2.2.2.2.2.1 ≤ 40 := Nat.le_trans hw8 (by decide)
  have hrd40 : rd ≤ 40 := by rw [hrd]; exact hC40
  have hpw40 : pw ≤ 40 := by rw [hpw]; exact hwt
  have hn120 : n2 ≤ 120 := by rw [hn2]; exact hM1
  refine lv_aload_n hx hb dL_law_960 rfl (lv_at hl 1 rfl) ?_
  refine sw_arg X hS (i := i) (j := 1) (jI := 1) (by omega) (by decide) hl 0 rfl 5 rfl dL_law_961 dL_law_962 dL_law_964 dL_law_965 dL_law_966 ?_
  refine lv_aload_n hx hb dL_law_967 rfl (lv_at hl 3 rfl) ?_
  refine sm_cH (rest := []) hC hK hP hD hS hZ (h_state (o := oL) (c_X6_state_i D ad P S T Lg M C cp ph fo ne no rc (sw_o D oL oD gL gD (sm_w7 D am P S U Lg nm Z cq ph th n2 fo rd np pw ev od rc [])) hlt (xs (i + 1)) hbk) rfl (fun w h => ⟨gL, by rw [h]; rfl⟩) (fun v h => by cases h) (fun E h => (Sum.inl.inj h).symm)) qyL_state wl_RL_168 ⟨(Nat.le_of_ble_eq_true rfl), (Nat.le_of_ble_eq_true rfl)⟩ rfl hl.1 rfl (Nat.le_of_ble_eq_true rfl) dL_law_968 hf (fun k1 w1 H locs hB1 hP hD hS => ?_)
  obtain ⟨rfl, cp1, gL1, rfl, hg⟩ := sw_bI (K := 1) (x := 0) (f := fun (a : sm_Cp) (g : Nat → Int64) => sm_w6 D ad P S T Lg M C a ph fo ne no rc (sw_o D oL oD g gD (sm_w7 D am P S U Lg nm Z cq ph th n2 fo rd np pw ev od rc []))) (g0 := gL) (fun _ _ _ => rfl) (fun w h => ⟨cp, h⟩) (sw_hx sw_n1 hB1)
  refine lv_istore (lv' := [(6, .int 1), (0, .ref b), (1, .ref (ad 0)), (2, .ref (am 0)), (3, .ref oL), (4, .ref oD), (5, .int (nI i))]) hx hb dL_law_971 hl (by decide) rfl (fun ls hl => ?_)
  have hP := sw_tP hP
  have hD := sw_tD hD
  refine lv_aload_n hx hb dL_law_973 rfl (lv_at hl 3 rfl) ?_
  refine sw_arg X hS (i := i) (j := 1) (jI := 1) (by omega) (by decide) hl 1 rfl 6 rfl dL_law_974 dL_law_975 dL_law_977 dL_law_978 dL_law_979 ?_
  refine sm_cVCr (rest := []) hC hK hP hD hS hZ (c_X7_state_i D am P S U Lg nm Z cq ph th n2 fo rd np pw ev od rc _ (xs (i + 1)) hbk) qyX7_state wl_RL_170 ⟨(Nat.le_of_ble_eq_true rfl), (Nat.le_of_ble_eq_true rfl)⟩ 0 rfl rfl rfl hl.1 rfl (Nat.le_of_ble_eq_true rfl) dL_law_980 hf (fun w1 H locs hB1 hP hD hS => ?_)
  obtain rfl := hB1
  exact sw_tI hC hK hP (c_X7_thrown _ _ _ _ _ _ _ _ _ _ _ _ _ _ _ _ _ _ _ _) rfl (rfl) 53 rfl hg (fun z => absurd z (by decide)) hl hf (by decide) dL_law_983 dL_law_985 dL_law_986 dL_law_989 dL_law_991 dL_law_996 dL_law_998 dL_law_1001 dL_law_1002 dL_law_1003 dL_law_1004 dL_law_1006 dL_law_1007 dL_law_1008 dL_law_1013 (fun ls hl => go _ _ _ (sw_mk (hR) hP hD hS hl (rfl) (rfl) (rfl) (rfl) (rfl) (rfl)))
set_option maxRecDepth 100000 in
theorem sw_c_state {p : Program} {l : Launch} {e : Env} {s : State} {m : MethodId} {below : List Frame} {meth : Method} {c : Code} {H : Heap} {locs : List Loc} {cells slots : Nat} {Q : State → Prop} {ls : Array Slot} {D : sm_G} {b L i : Nat} {xs : Nat → Int32} {ad am : Nat → Nat} {oL oD : Nat} {k : Nat} (hk : k < 40) (e1 : xs (i + 1) = nI k) (X : sw_X p l s m meth c b L xs D) (hi : i + 4 ≤ L) (hI : sw_I s D b ad am oL oD (nI i) ls H locs) (hf : cells + 1 ≤ room_1.cells ∧ slots + 6 ≤ room_1.slots) (go : ∀ (H : Heap) (locs : List Loc) (ls : Array Slot), sw_I s D b ad am oL oD (nI i) ls H locs → W p l e room_1 s m #[Value.ref b] below meth c H locs (cells + 1) (slots + 6) Q (F0 m 1616 ls [])) : W p l e room_1 s m #[Value.ref b] below meth c H locs cells slots Q (F0 m 960 ls []) := by
  obtain ⟨hC, hK, hZ, hlt, hX, hbl, hL⟩ := id X
  obtain ⟨hx, hb, hml, hrt, hown, hlk, hts⟩ := id hC
  obtain ⟨P, S, T, Lg, M, C, cp, ph, fo, ne, no, rc, U, nm, Z, cq, th, n2, rd, np, pw, ev, od, gL, gD, hR, hP, hD, hS, hl⟩ := hI
  obtain ⟨⟨hP6, hOK⟩, hph, ⟨hL1, hLk, hfo⟩, ⟨hM1, hMk, hn2, hnR⟩, ⟨hT, hB⟩, ⟨hne, hno⟩, ⟨hrd, hnp, hpw, hpR⟩⟩ := id hR
  have hf0 : cells ≤ room_1.cells ∧ slots ≤ room_1.slots := ⟨Nat.le_of_succ_le hf.1, Nat.le_trans (Nat.le_add_right _ _) hf.2⟩
  have hTk : ∀ k, sm_kv (U.1 k) := fun k => by rw [← hT.1]; exact hB.1 k
  have hC40 : C.2.2.2.2.2.2.2 ≤ 40 := hpR.1.2
  have hcx : C.2.2.2.2.2.1 ≤ C.2.2.2.2.2.2.2 := hpR.1.1
  have hw8 : C.2.2.2.2.2.2.1 ≤ 8 := sm_pR8 hpR
  have hwt : C.2.2.2.2.2.2.1 ≤ 40 := Nat.le_trans hw8 (by decide)
  have hrd40 : rd ≤ 40 := by rw [hrd]; exact hC40
  have hpw40 : pw ≤ 40 := by rw [hpw]; exact hwt
  have hn120 : n2 ≤ 120 := by rw [hn2]; exact hM1
  refine lv_aload_n hx hb dL_law_960 rfl (lv_at hl 1 rfl) ?_
  refine sw_arg X hS (i := i) (j := 1) (jI := 1) (by omega) (by decide) hl 0 rfl 5 rfl dL_law_961 dL_law_962 dL_law_964 dL_law_965 dL_law_966 ?_
  rw [e1]
  refine lv_aload_n hx hb dL_law_967 rfl (lv_at hl 3 rfl) ?_
  refine sm_cH (rest := []) hC hK hP hD hS hZ (h_state (o := oL) (c_X6_state D ad P S T Lg M C cp ph fo ne no rc (sw_o D oL oD gL gD (sm_w7 D am P S U Lg nm Z cq ph th n2 fo rd np pw ev od rc [])) hlt k hk hP6) rfl (fun w h => ⟨gL, by obtain ⟨_, rfl⟩ := h; rfl⟩) (fun v h => ⟨_, (Sum.inr.inj h).symm⟩) (fun E h => by cases h)) qyL_state wl_RL_168 ⟨(Nat.le_of_ble_eq_true rfl), (Nat.le_of_ble_eq_true rfl)⟩ rfl hl.1 rfl (Nat.le_of_ble_eq_true rfl) dL_law_968 hf (fun k1 w1 H locs hB1 hP hD hS => ?_)
  obtain ⟨rfl, cp1, gL1, rfl, hg⟩ := sw_bI (K := 0) (x := (sm_stF P S T k)) (f := fun (a : sm_Cp) (g : Nat → Int64) => sm_w6 D ad P S T Lg M C a ph fo ne no rc (sw_o D oL oD g gD (sm_w7 D am P S U Lg nm Z cq ph th n2 fo rd np pw ev od rc []))) (g0 := gL) (fun _ _ _ => rfl) (fun w h => h) (sw_ha hB1)
  refine lv_istore (lv' := [(6, .int 0), (0, .ref b), (1, .ref (ad 0)), (2, .ref (am 0)), (3, .ref oL), (4, .ref oD), (5, .int (nI i))]) hx hb dL_law_971 hl (by decide) rfl (fun ls hl => ?_)
  have hP := sw_tP hP
  have hD := sw_tD hD
  refine lv_aload_n hx hb dL_law_973 rfl (lv_at hl 3 rfl) ?_
  refine sw_arg X hS (i := i) (j := 1) (jI := 1) (by omega) (by decide) hl 1 rfl 6 rfl dL_law_974 dL_law_975 dL_law_977 dL_law_978 dL_law_979 ?_
  rw [e1]
  refine sm_cVCr (rest := []) hC hK hP hD hS hZ (c_X7_state D am P S U Lg nm Z cq ph th n2 fo rd np pw ev od rc _ k hk hP6 hOK) qyX7_state wl_RL_170 ⟨(Nat.le_of_ble_eq_true rfl), (Nat.le_of_ble_eq_true rfl)⟩ 0 rfl rfl rfl hl.1 rfl (Nat.le_of_ble_eq_true rfl) dL_law_980 hf (fun w1 H locs hB1 hP hD hS => ?_)
  obtain ⟨cq1, rfl⟩ := hB1
  exact sw_tI hC hK hP (c_X7_thrown _ _ _ _ _ _ _ _ _ _ _ _ _ _ _ _ _ _ _ _) rfl (rfl) 53 rfl hg (fun _ => sm_stFE hT k) hl hf (by decide) dL_law_983 dL_law_985 dL_law_986 dL_law_989 dL_law_991 dL_law_996 dL_law_998 dL_law_1001 dL_law_1002 dL_law_1003 dL_law_1004 dL_law_1006 dL_law_1007 dL_law_1008 dL_law_1013 (fun ls hl => go _ _ _ (sw_mk (hR) hP hD hS hl (rfl) (rfl) (rfl) (rfl) (rfl) (rfl)))
set_option maxRecDepth 100000 in
theorem sw_c_stamp_i {p : Program} {l : Launch} {e : Env} {s : State} {m : MethodId} {below : List Frame} {meth : Method} {c : Code} {H : Heap} {locs : List Loc} {cells slots : Nat} {Q : State → Prop} {ls : Array Slot} {D : sm_G} {b L i : Nat} {xs : Nat → Int32} {ad am : Nat → Nat} {oL oD : Nat} (hbk : sm_isKey (xs (i + 1)) = false) (X : sw_X p l s m meth c b L xs D) (hi : i + 4 ≤ L) (hI : sw_I s D b ad am oL oD (nI i) ls H locs) (hf : cells + 1 ≤ room_1.cells ∧ slots + 6 ≤ room_1.slots) (go : ∀ (H : Heap) (locs : List Loc) (ls : Array Slot), sw_I s D b ad am oL oD (nI i) ls H locs → W p l e room_1 s m #[Value.ref b] below meth c H locs (cells + 1) (slots + 6) Q (F0 m 1616 ls [])) : W p l e room_1 s m #[Value.ref b] below meth c H locs cells slots Q (F0 m 1016 ls []) := by
  obtain ⟨hC, hK, hZ, hlt, hX, hbl, hL⟩ := id X
  obtain ⟨hx, hb, hml, hrt, hown, hlk, hts⟩ := id hC
  obtain ⟨P, S, T, Lg, M, C, cp, ph, fo, ne, no, rc, U, nm, Z, cq, th, n2, rd, np, pw, ev, od, gL, gD, hR, hP, hD, hS, hl⟩ := hI
  obtain ⟨⟨hP6, hOK⟩, hph, ⟨hL1, hLk, hfo⟩, ⟨hM1, hMk, hn2, hnR⟩, ⟨hT, hB⟩, ⟨hne, hno⟩, ⟨hrd, hnp, hpw, hpR⟩⟩ := id hR
  have hf0 : cells ≤ room_1.cells ∧ slots ≤ room_1.slots := ⟨Nat.le_of_succ_le hf.1, Nat.le_trans (Nat.le_add_right _ _) hf.2⟩
  have hTk : ∀ k, sm_kv (U.1 k) := fun k => by rw [← hT.1]; exact hB.1 k
  have hC40 : C.2.2.2.2.2.2.2 ≤ 40 := hpR.1.2
  have hcx : C.2.2.2.2.2.1 ≤ C.2.2.2.2.2.2.2 := hpR.1.1
  have hw8 : C.2.2.2.2.2.2.1 ≤ 8 := sm_pR8 hpR
  have hwt : C.2.2.2.2.2.2.1 ≤ 40 := Nat.le_trans hw8 (by decide)
  have hrd40 : rd ≤ 40 := by rw [hrd]; exact hC40
  have hpw40 : pw ≤ 40 := by rw [hpw]; exact hwt
  have hn120 : n2 ≤ 120 := by rw [hn2]; exact hM1
  refine lv_aload_n hx hb dL_law_1016 rfl (lv_at hl 1 rfl) ?_
  refine sw_arg X hS (i := i) (j := 1) (jI := 1) (by omega) (by decide) hl 0 rfl 5 rfl dL_law_1017 dL_law_1018 dL_law_1020 dL_law_1021 dL_law_1022 ?_
  refine lv_aload_n hx hb dL_law_1023 rfl (lv_at hl 3 rfl) ?_
  refine sm_cH (rest := []) hC hK hP hD hS hZ (h_stamp (o := oL) (c_X6_stamp_i D ad P S T Lg M C cp ph fo ne no rc (sw_o D oL oD gL gD (sm_w7 D am P S U Lg nm Z cq ph th n2 fo rd np pw ev od rc [])) hlt (xs (i + 1)) hbk) rfl (fun w h => ⟨gL, by rw [h]; rfl⟩) (fun v h => by cases h) (fun E h => Or.inl (Sum.inl.inj h).symm)) qyL_stamp wl_RL_171 ⟨(Nat.le_of_ble_eq_true rfl), (Nat.le_of_ble_eq_true rfl)⟩ rfl hl.1 rfl (Nat.le_of_ble_eq_true rfl) dL_law_1024 hf (fun k1 w1 H locs hB1 hP hD hS => ?_)
  obtain ⟨rfl, cp1, gL1, rfl, hg⟩ := sw_bI (K := 1) (x := 0) (f := fun (a : sm_Cp) (g : Nat → Int64) => sm_w6 D ad P S T Lg M C a ph fo ne no rc (sw_o D oL oD g gD (sm_w7 D am P S U Lg nm Z cq ph th n2 fo rd np pw ev od rc []))) (g0 := gL) (fun _ _ _ => rfl) (fun w h => ⟨cp, h⟩) (sw_hx (sw_n2 sw_dAN) hB1)
  refine lv_istore (lv' := [(6, .int 1), (0, .ref b), (1, .ref (ad 0)), (2, .ref (am 0)), (3, .ref oL), (4, .ref oD), (5, .int (nI i))]) hx hb dL_law_1027 hl (by decide) rfl (fun ls hl => ?_)
  have hP := sw_tP hP
  have hD := sw_tD hD
  refine lv_aload_n hx hb dL_law_1029 rfl (lv_at hl 3 rfl) ?_
  refine sw_arg X hS (i := i) (j := 1) (jI := 1) (by omega) (by decide) hl 1 rfl 6 rfl dL_law_1030 dL_law_1031 dL_law_1033 dL_law_1034 dL_law_1035 ?_
  refine sm_cVCr (rest := []) hC hK hP hD hS hZ (c_X7_stamp_i D am P S U Lg nm Z cq ph th n2 fo rd np pw ev od rc _ (xs (i + 1)) hbk) qyX7_stamp wl_RL_173 ⟨(Nat.le_of_ble_eq_true rfl), (Nat.le_of_ble_eq_true rfl)⟩ 0 rfl rfl rfl hl.1 rfl (Nat.le_of_ble_eq_true rfl) dL_law_1036 hf (fun w1 H locs hB1 hP hD hS => ?_)
  obtain rfl := hB1
  exact sw_tI hC hK hP (c_X7_thrown _ _ _ _ _ _ _ _ _ _ _ _ _ _ _ _ _ _ _ _) rfl (rfl) 53 rfl hg (fun z => absurd z (by decide)) hl hf (by decide) dL_law_1039 dL_law_1041 dL_law_1042 dL_law_1045 dL_law_1047 dL_law_1052 dL_law_1054 dL_law_1057 dL_law_1058 dL_law_1059 dL_law_1060 dL_law_1062 dL_law_1063 dL_law_1064 dL_law_1069 (fun ls hl => go _ _ _ (sw_mk (hR) hP hD hS hl (rfl) (rfl) (rfl) (rfl) (rfl) (rfl)))
set_option maxRecDepth 100000 in
theorem sw_c_stamp {p : Program} {l : Launch} {e : Env} {s : State} {m : MethodId} {below : List Frame} {meth : Method} {c : Code} {H : Heap} {locs : List Loc} {cells slots : Nat} {Q : State → Prop} {ls : Array Slot} {D : sm_G} {b L i : Nat} {xs : Nat → Int32} {ad am : Nat → Nat} {oL oD : Nat} {k : Nat} (hk : k < 40) (e1 : xs (i + 1) = nI k) (X : sw_X p l s m meth c b L xs D) (hi : i + 4 ≤ L) (hI : sw_I s D b ad am oL oD (nI i) ls H locs) (hf : cells + 1 ≤ room_1.cells ∧ slots + 6 ≤ room_1.slots) (go : ∀ (H : Heap) (locs : List Loc) (ls : Array Slot), sw_I s D b ad am oL oD (nI i) ls H locs → W p l e room_1 s m #[Value.ref b] below meth c H locs (cells + 1) (slots + 6) Q (F0 m 1616 ls [])) : W p l e room_1 s m #[Value.ref b] below meth c H locs cells slots Q (F0 m 1016 ls []) := by
  obtain ⟨hC, hK, hZ, hlt, hX, hbl, hL⟩ := id X
  obtain ⟨hx, hb, hml, hrt, hown, hlk, hts⟩ := id hC
  obtain ⟨P, S, T, Lg, M, C, cp, ph, fo, ne, no, rc, U, nm, Z, cq, th, n2, rd, np, pw, ev, od, gL, gD, hR, hP, hD, hS, hl⟩ := hI
  obtain ⟨⟨hP6, hOK⟩, hph, ⟨hL1, hLk, hfo⟩, ⟨hM1, hMk, hn2, hnR⟩, ⟨hT, hB⟩, ⟨hne, hno⟩, ⟨hrd, hnp, hpw, hpR⟩⟩ := id hR
  have hf0 : cells ≤ room_1.cells ∧ slots ≤ room_1.slots := ⟨Nat.le_of_succ_le hf.1, Nat.le_trans (Nat.le_add_right _ _) hf.2⟩
  have hTk : ∀ k, sm_kv (U.1 k) := fun k => by rw [← hT.1]; exact hB.1 k
  have hC40 : C.2.2.2.2.2.2.2 ≤ 40 := hpR.1.2
  have hcx : C.2.2.2.2.2.1 ≤ C.2.2.2.2.2.2.2 := hpR.1.1
  have hw8 : C.2.2.2.2.2.2.1 ≤ 8 := sm_pR8 hpR
  have hwt : C.2.2.2.2.2.2.1 ≤ 40 := Nat.le_trans hw8 (by decide)
  have hrd40 : rd ≤ 40 := by rw [hrd]; exact hC40
  have hpw40 : pw ≤ 40 := by rw [hpw]; exact hwt
  have hn120 : n2 ≤ 120 := by rw [hn2]; exact hM1
  refine lv_aload_n hx hb dL_law_1016 rfl (lv_at hl 1 rfl) ?_
  refine sw_arg X hS (i := i) (j := 1) (jI := 1) (by omega) (by decide) hl 0 rfl 5 rfl dL_law_1017 dL_law_1018 dL_law_1020 dL_law_1021 dL_law_1022 ?_
  rw [e1]
  refine lv_aload_n hx hb dL_law_1023 rfl (lv_at hl 3 rfl) ?_
  refine sm_cH (rest := []) hC hK hP hD hS hZ (h_stamp (o := oL) (c_X6_stamp D ad P S T Lg M C cp ph fo ne no rc (sw_o D oL oD gL gD (sm_w7 D am P S U Lg nm Z cq ph th n2 fo rd np pw ev od rc [])) hlt k hk) rfl (fun w h => ⟨gL, by rw [h]; rfl⟩) (fun v h => ⟨_, (sm_rsv h).2⟩) (fun E h => sm_e2 (sm_r2 _) h)) qyL_stamp wl_RL_171 ⟨(Nat.le_of_ble_eq_true rfl), (Nat.le_of_ble_eq_true rfl)⟩ rfl hl.1 rfl (Nat.le_of_ble_eq_true rfl) dL_law_1024 hf (fun k1 w1 H locs hB1 hP hD hS => ?_)
  obtain ⟨rfl, cp1, gL1, rfl, hg⟩ := sw_bI (K := (sm_k2 (sm_stmp T k))) (x := (T.2.1 k)) (f := fun (a : sm_Cp) (g : Nat → Int64) => sm_w6 D ad P S T Lg M C a ph fo ne no rc (sw_o D oL oD g gD (sm_w7 D am P S U Lg nm Z cq ph th n2 fo rd np pw ev od rc []))) (g0 := gL) (fun _ _ _ => rfl) (fun w h => ⟨cp, h⟩) (sm_h2 sw_dAN (sm_r2 _) hB1)
  refine lv_istore (lv' := [(6, .int (sm_k2 (sm_stmp T k))), (0, .ref b), (1, .ref (ad 0)), (2, .ref (am 0)), (3, .ref oL), (4, .ref oD), (5, .int (nI i))]) hx hb dL_law_1027 hl (by decide) rfl (fun ls hl => ?_)
  have hP := sw_tP hP
  have hD := sw_tD hD
  refine lv_aload_n hx hb dL_law_1029 rfl (lv_at hl 3 rfl) ?_
  refine sw_arg X hS (i := i) (j := 1) (jI := 1) (by omega) (by decide) hl 1 rfl 6 rfl dL_law_1030 dL_law_1031 dL_law_1033 dL_law_1034 dL_law_1035 ?_
  rw [e1]
  refine sm_cVCr (rest := []) hC hK hP hD hS hZ (c_X7_stamp D am P S U Lg nm Z cq ph th n2 fo rd np pw ev od rc _ k hk hTk) qyX7_stamp wl_RL_173 ⟨(Nat.le_of_ble_eq_true rfl), (Nat.le_of_ble_eq_true rfl)⟩ 0 rfl rfl rfl hl.1 rfl (Nat.le_of_ble_eq_true rfl) dL_law_1036 hf (fun w1 H locs hB1 hP hD hS => ?_)
  obtain rfl := hB1
  obtain ⟨q1, q2⟩ := sw_m18 (k := k) hR
  exact sw_tI hC hK hP (c_X7_thrown _ _ _ _ _ _ _ _ _ _ _ _ _ _ _ _ _ _ _ _) rfl (q1) 53 rfl hg (q2) hl hf (by decide) dL_law_1039 dL_law_1041 dL_law_1042 dL_law_1045 dL_law_1047 dL_law_1052 dL_law_1054 dL_law_1057 dL_law_1058 dL_law_1059 dL_law_1060 dL_law_1062 dL_law_1063 dL_law_1064 dL_law_1069 (fun ls hl => go _ _ _ (sw_mk (hR) hP hD hS hl (rfl) (rfl) (rfl) (rfl) (rfl) (rfl)))
