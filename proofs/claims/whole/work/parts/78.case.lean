/-! the cases of the law, 4 -/
set_option maxRecDepth 100000 in
theorem sw_c_turned_i {p : Program} {l : Launch} {e : Env} {s : State} {m : MethodId} {below : List Frame} {meth : Method} {c : Code} {H : Heap} {locs : List Loc} {cells slots : Nat} {Q : State → Prop} {ls : Array Slot} {D : sm_G} {b L i : Nat} {xs : Nat → Int32} {ad am : Nat → Nat} {oL oD : Nat} (hbk : sm_isKey (xs (i + 1)) = false) (X : sw_X p l s m meth c b L xs D) (hi : i + 4 ≤ L) (hI : sw_I s D b ad am oL oD (nI i) ls H locs) (hf : cells + 1 ≤ room_1.cells ∧ slots + 6 ≤ room_1.slots) (go : ∀ (H : Heap) (locs : List Loc) (ls : Array Slot), sw_I s D b ad am oL oD (nI i) ls H locs → W p l e room_1 s m #[Value.ref b] below meth c H locs (cells + 1) (slots + 6) Q (F0 m 1616 ls [])) : W p l e room_1 s m #[Value.ref b] below meth c H locs cells slots Q (F0 m 1072 ls []) := by
  obtain ⟨hC, hK, hZ, hlt, hX, hbl, hL⟩ := id X
  obtain ⟨hx, hb, hml, hrt, hown, hlk, hts⟩ := id hC
  obtain ⟨P, S, T, Lg, M, C, cp, ph, fo, ne, no, rc, U, nm, Z, cq, th, n2, rd, np, pw, ev, od, gL, gD, hR, hP, hD, hS, hl⟩ := hI
  obtain ⟨⟨hP6, hOK⟩, hph, ⟨hL1, hLk, hfo⟩, ⟨hM1, hMk, hn2, hnR⟩, ⟨hT, hB⟩, ⟨hne, hno⟩, ⟨hrd, hnp, hpw, hpR⟩⟩ := id hR
  have hf0 : cells ≤ room_1.cells ∧ slots ≤ room_1.slots := ⟨Nat.le_of_succ_le hf.1, Nat.le_trans (Nat.le_add_right _ _) hf.2⟩
  have hTk : ∀ k, sm_kv (U.1 k) := fun k => by rw [← hT.1]; exact hB.1 k
  have hC40 : C.2.2.2.2.2.2.2 ≤ 40 := hpR.1.2
  have hcx : C.2.2.2.2.2.1 ≤ C.2.2.2.2.2.2.2 := hpR.1.1
  have hw8 : C.2.2.2.2.2.2.1 ≤ 8 := sm_pR8 hpR
  have hwt : C.2.2.2.2.2.2.1 ≤ 40 := Nat.le_trans hw8 (by decide)
  have hrd40 : rd ≤ 40 := by rw [hrd]; exact hC40
  have hpw40 : pw ≤ 40 := by rw [hpw]; exact hwt
  have hn120 : n2 ≤ 120 := by rw [hn2]; exact hM1
  refine lv_aload_n hx hb dL_law_1072 rfl (lv_at hl 1 rfl) ?_
  refine sw_arg X hS (i := i) (j := 1) (jI := 1) (by omega) (by decide) hl 0 rfl 5 rfl dL_law_1073 dL_law_1074 dL_law_1076 dL_law_1077 dL_law_1078 ?_
  refine sw_arg X hS (i := i) (j := 2) (jI := 2) (by omega) (by decide) hl 0 rfl 5 rfl dL_law_1079 dL_law_1080 dL_law_1082 dL_law_1083 dL_law_1084 ?_
  refine sw_bool hx hb dL_law_1085 dL_law_1088 dL_law_1089 dL_law_1092 ?_
  refine lv_aload_n hx hb dL_law_1093 rfl (lv_at hl 3 rfl) ?_
  refine sm_cH (rest := []) hC hK hP hD hS hZ (h_turned (o := oL) (c_X6_turned_i D ad P S T Lg M C cp ph fo ne no rc (sw_o D oL oD gL gD (sm_w7 D am P S U Lg nm Z cq ph th n2 fo rd np pw ev od rc [])) hlt (xs (i + 1)) (decide (¬ xs (i + 2) = 0)) hbk) rfl (fun w h => ⟨gL, by rw [h]; rfl⟩) (fun v h => by cases h) (fun E h => Or.inl (Sum.inl.inj h).symm)) qyL_turned wl_RL_174 ⟨(Nat.le_of_ble_eq_true rfl), (Nat.le_of_ble_eq_true rfl)⟩ rfl hl.1 rfl (Nat.le_of_ble_eq_true rfl) dL_law_1094 hf (fun k1 w1 H locs hB1 hP hD hS => ?_)
  obtain ⟨rfl, cp1, gL1, rfl, hg⟩ := sw_bI (K := 1) (x := 0) (f := fun (a : sm_Cp) (g : Nat → Int64) => sm_w6 D ad P S T Lg M C a ph fo ne no rc (sw_o D oL oD g gD (sm_w7 D am P S U Lg nm Z cq ph th n2 fo rd np pw ev od rc []))) (g0 := gL) (fun _ _ _ => rfl) (fun w h => ⟨cp, h⟩) (sw_hx (sw_n3 sw_dAN sw_dAU) hB1)
  refine lv_istore (lv' := [(6, .int 1), (0, .ref b), (1, .ref (ad 0)), (2, .ref (am 0)), (3, .ref oL), (4, .ref oD), (5, .int (nI i))]) hx hb dL_law_1097 hl (by decide) rfl (fun ls hl => ?_)
  have hP := sw_tP hP
  have hD := sw_tD hD
  refine lv_aload_n hx hb dL_law_1099 rfl (lv_at hl 3 rfl) ?_
  refine sw_arg X hS (i := i) (j := 1) (jI := 1) (by omega) (by decide) hl 1 rfl 6 rfl dL_law_1100 dL_law_1101 dL_law_1103 dL_law_1104 dL_law_1105 ?_
  refine sw_arg X hS (i := i) (j := 2) (jI := 2) (by omega) (by decide) hl 1 rfl 6 rfl dL_law_1106 dL_law_1107 dL_law_1109 dL_law_1110 dL_law_1111 ?_
  refine sw_bool hx hb dL_law_1112 dL_law_1115 dL_law_1116 dL_law_1119 ?_
  refine sm_cVCr (rest := []) hC hK hP hD hS hZ (c_X7_turned_i D am P S U Lg nm Z cq ph th n2 fo rd np pw ev od rc _ (xs (i + 1)) (decide (¬ xs (i + 2) = 0)) hbk) qyX7_turned wl_RL_176 ⟨(Nat.le_of_ble_eq_true rfl), (Nat.le_of_ble_eq_true rfl)⟩ 0 rfl rfl rfl hl.1 rfl (Nat.le_of_ble_eq_true rfl) dL_law_1120 hf (fun w1 H locs hB1 hP hD hS => ?_)
  obtain rfl := hB1
  exact sw_tI hC hK hP (c_X7_thrown _ _ _ _ _ _ _ _ _ _ _ _ _ _ _ _ _ _ _ _) rfl (rfl) 53 rfl hg (fun z => absurd z (by decide)) hl hf (by decide) dL_law_1123 dL_law_1125 dL_law_1126 dL_law_1129 dL_law_1131 dL_law_1136 dL_law_1138 dL_law_1141 dL_law_1142 dL_law_1143 dL_law_1144 dL_law_1146 dL_law_1147 dL_law_1148 dL_law_1153 (fun ls hl => go _ _ _ (sw_mk (hR) hP hD hS hl (rfl) (rfl) (rfl) (rfl) (rfl) (rfl)))
set_option maxRecDepth 100000 in
theorem sw_c_turned {p : Program} {l : Launch} {e : Env} {s : State} {m : MethodId} {below : List Frame} {meth : Method} {c : Code} {H : Heap} {locs : List Loc} {cells slots : Nat} {Q : State → Prop} {ls : Array Slot} {D : sm_G} {b L i : Nat} {xs : Nat → Int32} {ad am : Nat → Nat} {oL oD : Nat} {k : Nat} (hk : k < 40) (e1 : xs (i + 1) = nI k) (X : sw_X p l s m meth c b L xs D) (hi : i + 4 ≤ L) (hI : sw_I s D b ad am oL oD (nI i) ls H locs) (hf : cells + 1 ≤ room_1.cells ∧ slots + 6 ≤ room_1.slots) (go : ∀ (H : Heap) (locs : List Loc) (ls : Array Slot), sw_I s D b ad am oL oD (nI i) ls H locs → W p l e room_1 s m #[Value.ref b] below meth c H locs (cells + 1) (slots + 6) Q (F0 m 1616 ls [])) : W p l e room_1 s m #[Value.ref b] below meth c H locs cells slots Q (F0 m 1072 ls []) := by
  obtain ⟨hC, hK, hZ, hlt, hX, hbl, hL⟩ := id X
  obtain ⟨hx, hb, hml, hrt, hown, hlk, hts⟩ := id hC
  obtain ⟨P, S, T, Lg, M, C, cp, ph, fo, ne, no, rc, U, nm, Z, cq, th, n2, rd, np, pw, ev, od, gL, gD, hR, hP, hD, hS, hl⟩ := hI
  obtain ⟨⟨hP6, hOK⟩, hph, ⟨hL1, hLk, hfo⟩, ⟨hM1, hMk, hn2, hnR⟩, ⟨hT, hB⟩, ⟨hne, hno⟩, ⟨hrd, hnp, hpw, hpR⟩⟩ := id hR
  have hf0 : cells ≤ room_1.cells ∧ slots ≤ room_1.slots := ⟨Nat.le_of_succ_le hf.1, Nat.le_trans (Nat.le_add_right _ _) hf.2⟩
  have hTk : ∀ k, sm_kv (U.1 k) := fun k => by rw [← hT.1]; exact hB.1 k
  have hC40 : C.2.2.2.2.2.2.2 ≤ 40 := hpR.1.2
  have hcx : C.2.2.2.2.2.1 ≤ C.2.2.2.2.2.2.2 := hpR.1.1
  have hw8 : C.2.2.2.2.2.2.1 ≤ 8 := sm_pR8 hpR
  have hwt : C.2.2.2.2.2.2.1 ≤ 40 := Nat.le_trans hw8 (by decide)
  have hrd40 : rd ≤ 40 := by rw [hrd]; exact hC40
  have hpw40 : pw ≤ 40 := by rw [hpw]; exact hwt
  have hn120 : n2 ≤ 120 := by rw [hn2]; exact hM1
  refine lv_aload_n hx hb dL_law_1072 rfl (lv_at hl 1 rfl) ?_
  refine sw_arg X hS (i := i) (j := 1) (jI := 1) (by omega) (by decide) hl 0 rfl 5 rfl dL_law_1073 dL_law_1074 dL_law_1076 dL_law_1077 dL_law_1078 ?_
  rw [e1]
  refine sw_arg X hS (i := i) (j := 2) (jI := 2) (by omega) (by decide) hl 0 rfl 5 rfl dL_law_1079 dL_law_1080 dL_law_1082 dL_law_1083 dL_law_1084 ?_
  refine sw_bool hx hb dL_law_1085 dL_law_1088 dL_law_1089 dL_law_1092 ?_
  refine lv_aload_n hx hb dL_law_1093 rfl (lv_at hl 3 rfl) ?_
  refine sm_cH (rest := []) hC hK hP hD hS hZ (h_turned (o := oL) (c_X6_turned D ad P S T Lg M C cp ph fo ne no rc (sw_o D oL oD gL gD (sm_w7 D am P S U Lg nm Z cq ph th n2 fo rd np pw ev od rc [])) hlt k hk (decide (¬ xs (i + 2) = 0)) hP6) rfl (fun w h => ⟨gL, by obtain ⟨_, rfl⟩ := h; rfl⟩) (fun v h => ⟨_, (sm_rsv h).2⟩) (fun E h => sm_e3 h)) qyL_turned wl_RL_174 ⟨(Nat.le_of_ble_eq_true rfl), (Nat.le_of_ble_eq_true rfl)⟩ rfl hl.1 rfl (Nat.le_of_ble_eq_true rfl) dL_law_1094 hf (fun k1 w1 H locs hB1 hP hD hS => ?_)
  obtain ⟨rfl, cp1, gL1, rfl, hg⟩ := sw_bI (K := (sm_k23 (S.1 k) (sm_tn P S k))) (x := (sm_pk (decide (¬ xs (i + 2) = 0)) (sm_tr P (S.2.1 k, S.2.2 k)).2)) (f := fun (a : sm_Cp) (g : Nat → Int64) => sm_w6 D ad P S T Lg M C a ph fo ne no rc (sw_o D oL oD g gD (sm_w7 D am P S U Lg nm Z cq ph th n2 fo rd np pw ev od rc []))) (g0 := gL) (fun _ _ _ => rfl) (fun w h => h) (sm_h3 sw_dAN sw_dAU sw_dNU (sm_r23 _ _) hB1)
  refine lv_istore (lv' := [(6, .int (sm_k23 (S.1 k) (sm_tn P S k))), (0, .ref b), (1, .ref (ad 0)), (2, .ref (am 0)), (3, .ref oL), (4, .ref oD), (5, .int (nI i))]) hx hb dL_law_1097 hl (by decide) rfl (fun ls hl => ?_)
  have hP := sw_tP hP
  have hD := sw_tD hD
  refine lv_aload_n hx hb dL_law_1099 rfl (lv_at hl 3 rfl) ?_
  refine sw_arg X hS (i := i) (j := 1) (jI := 1) (by omega) (by decide) hl 1 rfl 6 rfl dL_law_1100 dL_law_1101 dL_law_1103 dL_law_1104 dL_law_1105 ?_
  rw [e1]
  refine sw_arg X hS (i := i) (j := 2) (jI := 2) (by omega) (by decide) hl 1 rfl 6 rfl dL_law_1106 dL_law_1107 dL_law_1109 dL_law_1110 dL_law_1111 ?_
  refine sw_bool hx hb dL_law_1112 dL_law_1115 dL_law_1116 dL_law_1119 ?_
  refine sm_cVCr (rest := []) hC hK hP hD hS hZ (c_X7_turned D am P S U Lg nm Z cq ph th n2 fo rd np pw ev od rc _ k hk (decide (¬ xs (i + 2) = 0)) hP6 hOK) qyX7_turned wl_RL_176 ⟨(Nat.le_of_ble_eq_true rfl), (Nat.le_of_ble_eq_true rfl)⟩ 0 rfl rfl rfl hl.1 rfl (Nat.le_of_ble_eq_true rfl) dL_law_1120 hf (fun w1 H locs hB1 hP hD hS => ?_)
  obtain ⟨cq1, rfl⟩ := hB1
  exact sw_tI hC hK hP (c_X7_thrown _ _ _ _ _ _ _ _ _ _ _ _ _ _ _ _ _ _ _ _) rfl (rfl) 53 rfl hg (fun z => if_pos z) hl hf (by decide) dL_law_1123 dL_law_1125 dL_law_1126 dL_law_1129 dL_law_1131 dL_law_1136 dL_law_1138 dL_law_1141 dL_law_1142 dL_law_1143 dL_law_1144 dL_law_1146 dL_law_1147 dL_law_1148 dL_law_1153 (fun ls hl => go _ _ _ (sw_mk (hR) hP hD hS hl (rfl) (rfl) (rfl) (rfl) (rfl) (rfl)))
set_option maxRecDepth 100000 in
theorem sw_c_turnedBack_i {p : Program} {l : Launch} {e : Env} {s : State} {m : MethodId} {below : List Frame} {meth : Method} {c : Code} {H : Heap} {locs : List Loc} {cells slots : Nat} {Q : State → Prop} {ls : Array Slot} {D : sm_G} {b L i : Nat} {xs : Nat → Int32} {ad am : Nat → Nat} {oL oD : Nat} (hbk : sm_isKey (xs (i + 1)) = false) (X : sw_X p l s m meth c b L xs D) (hi : i + 4 ≤ L) (hI : sw_I s D b ad am oL oD (nI i) ls H locs) (hf : cells + 1 ≤ room_1.cells ∧ slots + 6 ≤ room_1.slots) (go : ∀ (H : Heap) (locs : List Loc) (ls : Array Slot), sw_I s D b ad am oL oD (nI i) ls H locs → W p l e room_1 s m #[Value.ref b] below meth c H locs (cells + 1) (slots + 6) Q (F0 m 1616 ls [])) : W p l e room_1 s m #[Value.ref b] below meth c H locs cells slots Q (F0 m 1156 ls []) := by
  obtain ⟨hC, hK, hZ, hlt, hX, hbl, hL⟩ := id X
  obtain ⟨hx, hb, hml, hrt, hown, hlk, hts⟩ := id hC
  obtain ⟨P, S, T, Lg, M, C, cp, ph, fo, ne, no, rc, U, nm, Z, cq, th, n2, rd, np, pw, ev, od, gL, gD, hR, hP, hD, hS, hl⟩ := hI
  obtain ⟨⟨hP6, hOK⟩, hph, ⟨hL1, hLk, hfo⟩, ⟨hM1, hMk, hn2, hnR⟩, ⟨hT, hB⟩, ⟨hne, hno⟩, ⟨hrd, hnp, hpw, hpR⟩⟩ := id hR
  have hf0 : cells ≤ room_1.cells ∧ slots ≤ room_1.slots := ⟨Nat.le_of_succ_le hf.1, Nat.le_trans (Nat.le_add_right _ _) hf.2⟩
  have hTk : ∀ k, sm_kv (U.1 k) := fun k => by rw [← hT.1]; exact hB.1 k
  have hC40 : C.2.2.2.2.2.2.2 ≤ 40 := hpR.1.2
  have hcx : C.2.2.2.2.2.1 ≤ C.2.2.2.2.2.2.2 := hpR.1.1
  have hw8 : C.2.2.2.2.2.2.1 ≤ 8 := sm_pR8 hpR
  have hwt : C.2.2.2.2.2.2.1 ≤ 40 := Nat.le_trans hw8 (by decide)
  have hrd40 : rd ≤ 40 := by rw [hrd]; exact hC40
  have hpw40 : pw ≤ 40 := by rw [hpw]; exact hwt
  have hn120 : n2 ≤ 120 := by rw [hn2]; exact hM1
  refine lv_aload_n hx hb dL_law_1156 rfl (lv_at hl 1 rfl) ?_
  refine sw_arg X hS (i := i) (j := 1) (jI := 1) (by omega) (by decide) hl 0 rfl 5 rfl dL_law_1157 dL_law_1158 dL_law_1160 dL_law_1161 dL_law_1162 ?_
  refine sw_arg X hS (i := i) (j := 2) (jI := 2) (by omega) (by decide) hl 0 rfl 5 rfl dL_law_1163 dL_law_1164 dL_law_1166 dL_law_1167 dL_law_1168 ?_
  refine sw_bool hx hb dL_law_1169 dL_law_1172 dL_law_1173 dL_law_1176 ?_
  refine lv_aload_n hx hb dL_law_1177 rfl (lv_at hl 3 rfl) ?_
  refine sm_cH (rest := []) hC hK hP hD hS hZ (h_turnedBack (o := oL) (c_X6_turnedBack_i D ad P S T Lg M C cp ph fo ne no rc (sw_o D oL oD gL gD (sm_w7 D am P S U Lg nm Z cq ph th n2 fo rd np pw ev od rc [])) hlt (xs (i + 1)) (decide (¬ xs (i + 2) = 0)) hbk) rfl (fun w h => ⟨gL, by rw [h]; rfl⟩) (fun v h => by cases h) (fun E h => Or.inl (Sum.inl.inj h).symm)) qyL_turnedBack wl_RL_177 ⟨(Nat.le_of_ble_eq_true rfl), (Nat.le_of_ble_eq_true rfl)⟩ rfl hl.1 rfl (Nat.le_of_ble_eq_true rfl) dL_law_1178 hf (fun k1 w1 H locs hB1 hP hD hS => ?_)
  obtain ⟨rfl, cp1, gL1, rfl, hg⟩ := sw_bI (K := 1) (x := 0) (f := fun (a : sm_Cp) (g : Nat → Int64) => sm_w6 D ad P S T Lg M C a ph fo ne no rc (sw_o D oL oD g gD (sm_w7 D am P S U Lg nm Z cq ph th n2 fo rd np pw ev od rc []))) (g0 := gL) (fun _ _ _ => rfl) (fun w h => ⟨cp, h⟩) (sw_hx (sw_n3 sw_dAN sw_dAU) hB1)
  refine lv_istore (lv' := [(6, .int 1), (0, .ref b), (1, .ref (ad 0)), (2, .ref (am 0)), (3, .ref oL), (4, .ref oD), (5, .int (nI i))]) hx hb dL_law_1181 hl (by decide) rfl (fun ls hl => ?_)
  have hP := sw_tP hP
  have hD := sw_tD hD
  refine lv_aload_n hx hb dL_law_1183 rfl (lv_at hl 3 rfl) ?_
  refine sw_arg X hS (i := i) (j := 1) (jI := 1) (by omega) (by decide) hl 1 rfl 6 rfl dL_law_1184 dL_law_1185 dL_law_1187 dL_law_1188 dL_law_1189 ?_
  refine sw_arg X hS (i := i) (j := 2) (jI := 2) (by omega) (by decide) hl 1 rfl 6 rfl dL_law_1190 dL_law_1191 dL_law_1193 dL_law_1194 dL_law_1195 ?_
  refine sw_bool hx hb dL_law_1196 dL_law_1199 dL_law_1200 dL_law_1203 ?_
  refine sm_cVCr (rest := []) hC hK hP hD hS hZ (c_X7_turnedBack_i D am P S U Lg nm Z cq ph th n2 fo rd np pw ev od rc _ (xs (i + 1)) (decide (¬ xs (i + 2) = 0)) hbk) qyX7_turnedBack wl_RL_179 ⟨(Nat.le_of_ble_eq_true rfl), (Nat.le_of_ble_eq_true rfl)⟩ 0 rfl rfl rfl hl.1 rfl (Nat.le_of_ble_eq_true rfl) dL_law_1204 hf (fun w1 H locs hB1 hP hD hS => ?_)
  obtain rfl := hB1
  exact sw_tI hC hK hP (c_X7_thrown _ _ _ _ _ _ _ _ _ _ _ _ _ _ _ _ _ _ _ _) rfl (rfl) 53 rfl hg (fun z => absurd z (by decide)) hl hf (by decide) dL_law_1207 dL_law_1209 dL_law_1210 dL_law_1213 dL_law_1215 dL_law_1220 dL_law_1222 dL_law_1225 dL_law_1226 dL_law_1227 dL_law_1228 dL_law_1230 dL_law_1231 dL_law_1232 dL_law_1237 (fun ls hl => go _ _ _ (sw_mk (hR) hP hD hS hl (rfl) (rfl) (rfl) (rfl) (rfl) (rfl)))
set_option maxRecDepth 100000 in
theorem sw_c_turnedBack {p : Program} {l : Launch} {e : Env} {s : State} {m : MethodId} {below : List Frame} {meth : Method} {c : Code} {H : Heap} {locs : List Loc} {cells slots : Nat} {Q : State → Prop} {ls : Array Slot} {D : sm_G} {b L i : Nat} {xs : Nat → Int32} {ad am : Nat → Nat} {oL oD : Nat} {k : Nat} (hk : k < 40) (e1 : xs (i + 1) = nI k) (X : sw_X p l s m meth c b L xs D) (hi : i + 4 ≤ L) (hI : sw_I s D b ad am oL oD (nI i) ls H locs) (hf : cells + 1 ≤ room_1.cells ∧ slots + 6 ≤ room_1.slots) (go : ∀ (H : Heap) (locs : List Loc) (ls : Array Slot), sw_I s D b ad am oL oD (nI i) ls H locs → W p l e room_1 s m #[Value.ref b] below meth c H locs (cells + 1) (slots + 6) Q (F0 m 1616 ls [])) : W p l e room_1 s m #[Value.ref b] below meth c H locs cells slots Q (F0 m 1156 ls []) := by
  obtain ⟨hC, hK, hZ, hlt, hX, hbl, hL⟩ := id X
  obtain ⟨hx, hb, hml, hrt, hown, hlk, hts⟩ := id hC
  obtain ⟨P, S, T, Lg, M, C, cp, ph, fo, ne, no, rc, U, nm, Z, cq, th, n2, rd, np, pw, ev, od, gL, gD, hR, hP, hD, hS, hl⟩ := hI
  obtain ⟨⟨hP6, hOK⟩, hph, ⟨hL1, hLk, hfo⟩, ⟨hM1, hMk, hn2, hnR⟩, ⟨hT, hB⟩, ⟨hne, hno⟩, ⟨hrd, hnp, hpw, hpR⟩⟩ := id hR
  have hf0 : cells ≤ room_1.cells ∧ slots ≤ room_1.slots := ⟨Nat.le_of_succ_le hf.1, Nat.le_trans (Nat.le_add_right _ _) hf.2⟩
  have hTk : ∀ k, sm_kv (U.1 k) := fun k => by rw [← hT.1]; exact hB.1 k
  have hC40 : C.2.2.2.2.2.2.2 ≤ 40 := hpR.1.2
  have hcx : C.2.2.2.2.2.1 ≤ C.2.2.2.2.2.2.2 := hpR.1.1
  have hw8 : C.2.2.2.2.2.2.1 ≤ 8 := sm_pR8 hpR
  have hwt : C.2.2.2.2.2.2.1 ≤ 40 := Nat.le_trans hw8 (by decide)
  have hrd40 : rd ≤ 40 := by rw [hrd]; exact hC40
  have hpw40 : pw ≤ 40 := by rw [hpw]; exact hwt
  have hn120 : n2 ≤ 120 := by rw [hn2]; exact hM1
  refine lv_aload_n hx hb dL_law_1156 rfl (lv_at hl 1 rfl) ?_
  refine sw_arg X hS (i := i) (j := 1) (jI := 1) (by omega) (by decide) hl 0 rfl 5 rfl dL_law_1157 dL_law_1158 dL_law_1160 dL_law_1161 dL_law_1162 ?_
  rw [e1]
  refine sw_arg X hS (i := i) (j := 2) (jI := 2) (by omega) (by decide) hl 0 rfl 5 rfl dL_law_1163 dL_law_1164 dL_law_1166 dL_law_1167 dL_law_1168 ?_
  refine sw_bool hx hb dL_law_1169 dL_law_1172 dL_law_1173 dL_law_1176 ?_
  refine lv_aload_n hx hb dL_law_1177 rfl (lv_at hl 3 rfl) ?_
  refine sm_cH (rest := []) hC hK hP hD hS hZ (h_turnedBack (o := oL) (c_X6_turnedBack D ad P S T Lg M C cp ph fo ne no rc (sw_o D oL oD gL gD (sm_w7 D am P S U Lg nm Z cq ph th n2 fo rd np pw ev od rc [])) hlt k hk (decide (¬ xs (i + 2) = 0)) hP6) rfl (fun w h => ⟨gL, by obtain ⟨_, rfl⟩ := h; rfl⟩) (fun v h => ⟨_, (sm_rsv h).2⟩) (fun E h => sm_e3 h)) qyL_turnedBack wl_RL_177 ⟨(Nat.le_of_ble_eq_true rfl), (Nat.le_of_ble_eq_true rfl)⟩ rfl hl.1 rfl (Nat.le_of_ble_eq_true rfl) dL_law_1178 hf (fun k1 w1 H locs hB1 hP hD hS => ?_)
  obtain ⟨rfl, cp1, gL1, rfl, hg⟩ := sw_bI (K := (sm_k23 (sm_kd T k 1) (sm_tb P T k))) (x := (sm_pk (decide (¬ xs (i + 2) = 0)) (sm_bk P (T.2.2.1 k, T.2.2.2 k)).2)) (f := fun (a : sm_Cp) (g : Nat → Int64) => sm_w6 D ad P S T Lg M C a ph fo ne no rc (sw_o D oL oD g gD (sm_w7 D am P S U Lg nm Z cq ph th n2 fo rd np pw ev od rc []))) (g0 := gL) (fun _ _ _ => rfl) (fun w h => h) (sm_h3 sw_dAN sw_dAU sw_dNU (sm_r23 _ _) hB1)
  refine lv_istore (lv' := [(6, .int (sm_k23 (sm_kd T k 1) (sm_tb P T k))), (0, .ref b), (1, .ref (ad 0)), (2, .ref (am 0)), (3, .ref oL), (4, .ref oD), (5, .int (nI i))]) hx hb dL_law_1181 hl (by decide) rfl (fun ls hl => ?_)
  have hP := sw_tP hP
  have hD := sw_tD hD
  refine lv_aload_n hx hb dL_law_1183 rfl (lv_at hl 3 rfl) ?_
  refine sw_arg X hS (i := i) (j := 1) (jI := 1) (by omega) (by decide) hl 1 rfl 6 rfl dL_law_1184 dL_law_1185 dL_law_1187 dL_law_1188 dL_law_1189 ?_
  rw [e1]
  refine sw_arg X hS (i := i) (j := 2) (jI := 2) (by omega) (by decide) hl 1 rfl 6 rfl dL_law_1190 dL_law_1191 dL_law_1193 dL_law_1194 dL_law_1195 ?_
  refine sw_bool hx hb dL_law_1196 dL_law_1199 dL_law_1200 dL_law_1203 ?_
  refine sm_cVCr (rest := []) hC hK hP hD hS hZ (c_X7_turnedBack D am P S U Lg nm Z cq ph th n2 fo rd np pw ev od rc _ k hk (decide (¬ xs (i + 2) = 0)) hP6 hOK) qyX7_turnedBack wl_RL_179 ⟨(Nat.le_of_ble_eq_true rfl), (Nat.le_of_ble_eq_true rfl)⟩ 0 rfl rfl rfl hl.1 rfl (Nat.le_of_ble_eq_true rfl) dL_law_1204 hf (fun w1 H locs hB1 hP hD hS => ?_)
  obtain ⟨cq1, rfl⟩ := hB1
  obtain ⟨q1, q2⟩ := sw_m20 (k := k) (z := (decide (¬ xs (i + 2) = 0))) hR
  exact sw_tI hC hK hP (c_X7_thrown _ _ _ _ _ _ _ _ _ _ _ _ _ _ _ _ _ _ _ _) rfl (q1) 53 rfl hg (q2) hl hf (by decide) dL_law_1207 dL_law_1209 dL_law_1210 dL_law_1213 dL_law_1215 dL_law_1220 dL_law_1222 dL_law_1225 dL_law_1226 dL_law_1227 dL_law_1228 dL_law_1230 dL_law_1231 dL_law_1232 dL_law_1237 (fun ls hl => go _ _ _ (sw_mk (hR) hP hD hS hl (rfl) (rfl) (rfl) (rfl) (rfl) (rfl)))
set_option maxRecDepth 100000 in
theorem sw_c_sum_i {p : Program} {l : Launch} {e : Env} {s : State} {m : MethodId} {below : List Frame} {meth : Method} {c : Code} {H : Heap} {locs : List Loc} {cells slots : Nat} {Q : State → Prop} {ls : Array Slot} {D : sm_G} {b L i : Nat} {xs : Nat → Int32} {ad am : Nat → Nat} {oL oD : Nat} (hbk : sm_isRg (xs (i + 2)) (xs (i + 3)) = false) (X : sw_X p l s m meth c b L xs D) (hi : i + 4 ≤ L) (hI : sw_I s D b ad am oL oD (nI i) ls H locs) (hf : cells + 1 ≤ room_1.cells ∧ slots + 6 ≤ room_1.slots) (go : ∀ (H : Heap) (locs : List Loc) (ls : Array Slot), sw_I s D b ad am oL oD (nI i) ls H locs → W p l e room_1 s m #[Value.ref b] below meth c H locs (cells + 1) (slots + 6) Q (F0 m 1616 ls [])) : W p l e room_1 s m #[Value.ref b] below meth c H locs cells slots Q (F0 m 1240 ls []) := by
  obtain ⟨hC, hK, hZ, hlt, hX, hbl, hL⟩ := id X
  obtain ⟨hx, hb, hml, hrt, hown, hlk, hts⟩ := id hC
  obtain ⟨P, S, T, Lg, M, C, cp, ph, fo, ne, no, rc, U, nm, Z, cq, th, n2, rd, np, pw, ev, od, gL, gD, hR, hP, hD, hS, hl⟩ := hI
  obtain ⟨⟨hP6, hOK⟩, hph, ⟨hL1, hLk, hfo⟩, ⟨hM1, hMk, hn2, hnR⟩, ⟨hT, hB⟩, ⟨hne, hno⟩, ⟨hrd, hnp, hpw, hpR⟩⟩ := id hR
  have hf0 : cells ≤ room_1.cells ∧ slots ≤ room_1.slots := ⟨Nat.le_of_succ_le hf.1, Nat.le_trans (Nat.le_add_right _ _) hf.2⟩
  have hTk : ∀ k, sm_kv (U.1 k) := fun k => by rw [← hT.1]; exact hB.1 k
  have hC40 : C.2.2.2.2.2.2.2 ≤ 40 := hpR.1.2
  have hcx : C.2.2.2.2.2.1 ≤ C.2.2.2.2.2.2.2 := hpR.1.1
  have hw8 : C.2.2.2.2.2.2.1 ≤ 8 := sm_pR8 hpR
  have hwt : C.2.2.2.2.2.2.1 ≤ 40 := Nat.le_trans hw8 (by decide)
  have hrd40 : rd ≤ 40 := by rw [hrd]; exact hC40
  have hpw40 : pw ≤ 40 := by rw [hpw]; exact hwt
  have hn120 : n2 ≤ 120 := by rw [hn2]; exact hM1
  refine lv_aload_n hx hb dL_law_1240 rfl (lv_at hl 1 rfl) ?_
  refine sw_arg X hS (i := i) (j := 1) (jI := 1) (by omega) (by decide) hl 0 rfl 5 rfl dL_law_1241 dL_law_1242 dL_law_1244 dL_law_1245 dL_law_1246 ?_
  refine sw_bool hx hb dL_law_1247 dL_law_1250 dL_law_1251 dL_law_1254 ?_
  refine sw_arg X hS (i := i) (j := 2) (jI := 2) (by omega) (by decide) hl 0 rfl 5 rfl dL_law_1255 dL_law_1256 dL_law_1258 dL_law_1259 dL_law_1260 ?_
  refine sw_arg X hS (i := i) (j := 3) (jI := 3) (by omega) (by decide) hl 0 rfl 5 rfl dL_law_1261 dL_law_1262 dL_law_1264 dL_law_1265 dL_law_1266 ?_
  refine lv_aload_n hx hb dL_law_1267 rfl (lv_at hl 3 rfl) ?_
  refine sm_cH (rest := []) hC hK hP hD hS hZ (h_sum (o := oL) (c_X6_sum_i D ad P S T Lg M C cp ph fo ne no rc (sw_o D oL oD gL gD (sm_w7 D am P S U Lg nm Z cq ph th n2 fo rd np pw ev od rc [])) hlt (decide (¬ xs (i + 1) = 0)) (xs (i + 2)) (xs (i + 3)) hbk) rfl (fun w h => ⟨gL, by rw [h]; rfl⟩) (fun v h => by cases h) (fun E h => (Sum.inl.inj h).symm)) qyL_sum wl_RL_180 ⟨(Nat.le_of_ble_eq_true rfl), (Nat.le_of_ble_eq_true rfl)⟩ rfl hl.1 rfl (Nat.le_of_ble_eq_true rfl) dL_law_1268 hf (fun k1 w1 H locs hB1 hP hD hS => ?_)
  obtain ⟨rfl, cp1, gL1, rfl, hg⟩ := sw_bL (K := 1) (x := 0) (f := fun (a : sm_Cp) (g : Nat → Int64) => sm_w6 D ad P S T Lg M C a ph fo ne no rc (sw_o D oL oD g gD (sm_w7 D am P S U Lg nm Z cq ph th n2 fo rd np pw ev od rc []))) (g0 := gL) (fun _ _ _ => rfl) (fun w h => ⟨cp, h⟩) (sw_hx sw_n1 hB1)
  refine lv_istore (lv' := [(6, .int 1), (0, .ref b), (1, .ref (ad 0)), (2, .ref (am 0)), (3, .ref oL), (4, .ref oD), (5, .int (nI i))]) hx hb dL_law_1271 hl (by decide) rfl (fun ls hl => ?_)
  have hP := sw_tP hP
  have hD := sw_tD hD
  refine lv_aload_n hx hb dL_law_1273 rfl (lv_at hl 3 rfl) ?_
  refine sw_arg X hS (i := i) (j := 1) (jI := 1) (by omega) (by decide) hl 1 rfl 6 rfl dL_law_1274 dL_law_1275 dL_law_1277 dL_law_1278 dL_law_1279 ?_
  refine sw_bool hx hb dL_law_1280 dL_law_1283 dL_law_1284 dL_law_1287 ?_
  refine sw_arg X hS (i := i) (j := 2) (jI := 2) (by omega) (by decide) hl 1 rfl 6 rfl dL_law_1288 dL_law_1289 dL_law_1291 dL_law_1292 dL_law_1293 ?_
  refine sw_arg X hS (i := i) (j := 3) (jI := 3) (by omega) (by decide) hl 1 rfl 6 rfl dL_law_1294 dL_law_1295 dL_law_1297 dL_law_1298 dL_law_1299 ?_
  refine sm_cVCr (rest := []) hC hK hP hD hS hZ (c_X7_sum_i D am P S U Lg nm Z cq ph th n2 fo rd np pw ev od rc _ (decide (¬ xs (i + 1) = 0)) (xs (i + 2)) (xs (i + 3)) hbk) qyX7_sum wl_RL_183 ⟨(Nat.le_of_ble_eq_true rfl), (Nat.le_of_ble_eq_true rfl)⟩ 0 rfl rfl rfl hl.1 rfl (Nat.le_of_ble_eq_true rfl) dL_law_1300 hf (fun w1 H locs hB1 hP hD hS => ?_)
  obtain rfl := hB1
  exact sw_tL hC hK hP (c_X7_thrown _ _ _ _ _ _ _ _ _ _ _ _ _ _ _ _ _ _ _ _) rfl (rfl) 53 rfl hg (fun z => absurd z (by decide)) hl hf (by decide) dL_law_1303 dL_law_1305 dL_law_1306 dL_law_1309 dL_law_1311 dL_law_1316 dL_law_1318 dL_law_1321 dL_law_1322 dL_law_1323 dL_law_1324 dL_law_1326 dL_law_1327 dL_law_1332 (fun ls hl => go _ _ _ (sw_mk (hR) hP hD hS hl (rfl) (rfl) (rfl) (rfl) (rfl) (rfl)))
set_option maxRecDepth 100000 in
theorem sw_c_sum {p : Program} {l : Launch} {e : Env} {s : State} {m : MethodId} {below : List Frame} {meth : Method} {c : Code} {H : Heap} {locs : List Loc} {cells slots : Nat} {Q : State → Prop} {ls : Array Slot} {D : sm_G} {b L i : Nat} {xs : Nat → Int32} {ad am : Nat → Nat} {oL oD : Nat} {lo hj : Nat} (hlo : ¬ hj < lo) (hhi : hj < 40) (e2 : xs (i + 2) = nI lo) (e3 : xs (i + 3) = nI hj) (X : sw_X p l s m meth c b L xs D) (hi : i + 4 ≤ L) (hI : sw_I s D b ad am oL oD (nI i) ls H locs) (hf : cells + 1 ≤ room_1.cells ∧ slots + 6 ≤ room_1.slots) (go : ∀ (H : Heap) (locs : List Loc) (ls : Array Slot), sw_I s D b ad am oL oD (nI i) ls H locs → W p l e room_1 s m #[Value.ref b] below meth c H locs (cells + 1) (slots + 6) Q (F0 m 1616 ls [])) : W p l e room_1 s m #[Value.ref b] below meth c H locs cells slots Q (F0 m 1240 ls []) := by
  obtain ⟨hC, hK, hZ, hlt, hX, hbl, hL⟩ := id X
  obtain ⟨hx, hb, hml, hrt, hown, hlk, hts⟩ := id hC
  obtain ⟨P, S, T, Lg, M, C, cp, ph, fo, ne, no, rc, U, nm, Z, cq, th, n2, rd, np, pw, ev, od, gL, gD, hR, hP, hD, hS, hl⟩ := hI
  obtain ⟨⟨hP6, hOK⟩, hph, ⟨hL1, hLk, hfo⟩, ⟨hM1, hMk, hn2, hnR⟩, ⟨hT, hB⟩, ⟨hne, hno⟩, ⟨hrd, hnp, hpw, hpR⟩⟩ := id hR
  have hf0 : cells ≤ room_1.cells ∧ slots ≤ room_1.slots := ⟨Nat.le_of_succ_le hf.1, Nat.le_trans (Nat.le_add_right _ _) hf.2⟩
  have hTk : ∀ k, sm_kv (U.1 k) := fun k => by rw [← hT.1]; exact hB.1 k
  have hC40 : C.2.2.2.2.2.2.2 ≤ 40 := hpR.1.2
  have hcx : C.2.2.2.2.2.1 ≤ C.2.2.2.2.2.2.2 := hpR.1.1
  have hw8 : C.2.2.2.2.2.2.1 ≤ 8 := sm_pR8 hpR
  have hwt : C.2.2.2.2.2.2.1 ≤ 40 := Nat.le_trans hw8 (by decide)
  have hrd40 : rd ≤ 40 := by rw [hrd]; exact hC40
  have hpw40 : pw ≤ 40 := by rw [hpw]; exact hwt
  have hn120 : n2 ≤ 120 := by rw [hn2]; exact hM1
  refine lv_aload_n hx hb dL_law_1240 rfl (lv_at hl 1 rfl) ?_
  refine sw_arg X hS (i := i) (j := 1) (jI := 1) (by omega) (by decide) hl 0 rfl 5 rfl dL_law_1241 dL_law_1242 dL_law_1244 dL_law_1245 dL_law_1246 ?_
  refine sw_bool hx hb dL_law_1247 dL_law_1250 dL_law_1251 dL_law_1254 ?_
  refine sw_arg X hS (i := i) (j := 2) (jI := 2) (by omega) (by decide) hl 0 rfl 5 rfl dL_law_1255 dL_law_1256 dL_law_1258 dL_law_1259 dL_law_1260 ?_
  rw [e2]
  refine sw_arg X hS (i := i) (j := 3) (jI := 3) (by omega) (by decide) hl 0 rfl 5 rfl dL_law_1261 dL_law_1262 dL_law_1264 dL_law_1265 dL_law_1266 ?_
  rw [e3]
  refine lv_aload_n hx hb dL_law_1267 rfl (lv_at hl 3 rfl) ?_
  refine sm_cH (rest := []) hC hK hP hD hS hZ (h_sum (o := oL) (c_X6_sum D ad P S T Lg M C cp ph fo ne no rc (sw_o D oL oD gL gD (sm_w7 D am P S U Lg nm Z cq ph th n2 fo rd np pw ev od rc [])) hlt (decide (¬ xs (i + 1) = 0)) lo hj hlo hhi hP6) rfl (fun w h => ⟨gL, by obtain ⟨_, rfl⟩ := h; rfl⟩) (fun v h => ⟨_, (Sum.inr.inj h).symm⟩) (fun E h => by cases h)) qyL_sum wl_RL_180 ⟨(Nat.le_of_ble_eq_true rfl), (Nat.le_of_ble_eq_true rfl)⟩ rfl hl.1 rfl (Nat.le_of_ble_eq_true rfl) dL_law_1268 hf (fun k1 w1 H locs hB1 hP hD hS => ?_)
  obtain ⟨rfl, cp1, gL1, rfl, hg⟩ := sw_bL (K := 0) (x := (sm_sm (decide (¬ xs (i + 1) = 0)) P S T lo hj)) (f := fun (a : sm_Cp) (g : Nat → Int64) => sm_w6 D ad P S T Lg M C a ph fo ne no rc (sw_o D oL oD g gD (sm_w7 D am P S U Lg nm Z cq ph th n2 fo rd np pw ev od rc []))) (g0 := gL) (fun _ _ _ => rfl) (fun w h => h) (sw_ha hB1)
  refine lv_istore (lv' := [(6, .int 0), (0, .ref b), (1, .ref (ad 0)), (2, .ref (am 0)), (3, .ref oL), (4, .ref oD), (5, .int (nI i))]) hx hb dL_law_1271 hl (by decide) rfl (fun ls hl => ?_)
  have hP := sw_tP hP
  have hD := sw_tD hD
  refine lv_aload_n hx hb dL_law_1273 rfl (lv_at hl 3 rfl) ?_
  refine sw_arg X hS (i := i) (j := 1) (jI := 1) (by omega) (by decide) hl 1 rfl 6 rfl dL_law_1274 dL_law_1275 dL_law_1277 dL_law_1278 dL_law_1279 ?_
  refine sw_bool hx hb dL_law_1280 dL_law_1283 dL_law_1284 dL_law_1287 ?_
  refine sw_arg X hS (i := i) (j := 2) (jI := 2) (by omega) (by decide) hl 1 rfl 6 rfl dL_law_1288 dL_law_1289 dL_law_1291 dL_law_1292 dL_law_1293 ?_
  rw [e2]
  refine sw_arg X hS (i := i) (j := 3) (jI := 3) (by omega) (by decide) hl 1 rfl 6 rfl dL_law_1294 dL_law_1295 dL_law_1297 dL_law_1298 dL_law_1299 ?_
  rw [e3]
  refine sm_cVCr (rest := []) hC hK hP hD hS hZ (c_X7_sum D am P S U Lg nm Z cq ph th n2 fo rd np pw ev od rc _ (decide (¬ xs (i + 1) = 0)) lo hj hlo hhi hP6 hOK) qyX7_sum wl_RL_183 ⟨(Nat.le_of_ble_eq_true rfl), (Nat.le_of_ble_eq_true rfl)⟩ 0 rfl rfl rfl hl.1 rfl (Nat.le_of_ble_eq_true rfl) dL_law_1300 hf (fun w1 H locs hB1 hP hD hS => ?_)
  obtain ⟨cq1, rfl⟩ := hB1
  exact sw_tL hC hK hP (c_X7_thrown _ _ _ _ _ _ _ _ _ _ _ _ _ _ _ _ _ _ _ _) rfl (rfl) 53 rfl hg (fun _ => sm_smE hT (decide (¬ xs (i + 1) = 0)) lo hj) hl hf (by decide) dL_law_1303 dL_law_1305 dL_law_1306 dL_law_1309 dL_law_1311 dL_law_1316 dL_law_1318 dL_law_1321 dL_law_1322 dL_law_1323 dL_law_1324 dL_law_1326 dL_law_1327 dL_law_1332 (fun ls hl => go _ _ _ (sw_mk (hR) hP hD hS hl (rfl) (rfl) (rfl) (rfl) (rfl) (rfl)))
set_option maxRecDepth 100000 in
theorem sw_c_firstUnlike_i {p : Program} {l : Launch} {e : Env} {s : State} {m : MethodId} {below : List Frame} {meth : Method} {c : Code} {H : Heap} {locs : List Loc} {cells slots : Nat} {Q : State → Prop} {ls : Array Slot} {D : sm_G} {b L i : Nat} {xs : Nat → Int32} {ad am : Nat → Nat} {oL oD : Nat} (hbk : sm_isRg (xs (i + 1)) (xs (i + 2)) = false) (X : sw_X p l s m meth c b L xs D) (hi : i + 4 ≤ L) (hI : sw_I s D b ad am oL oD (nI i) ls H locs) (hf : cells + 1 ≤ room_1.cells ∧ slots + 6 ≤ room_1.slots) (go : ∀ (H : Heap) (locs : List Loc) (ls : Array Slot), sw_I s D b ad am oL oD (nI i) ls H locs → W p l e room_1 s m #[Value.ref b] below meth c H locs (cells + 1) (slots + 6) Q (F0 m 1616 ls [])) : W p l e room_1 s m #[Value.ref b] below meth c H locs cells slots Q (F0 m 1335 ls []) := by
  obtain ⟨hC, hK, hZ, hlt, hX, hbl, hL⟩ := id X
  obtain ⟨hx, hb, hml, hrt, hown, hlk, hts⟩ := id hC
  obtain ⟨P, S, T, Lg, M, C, cp, ph, fo, ne, no, rc, U, nm, Z, cq, th, n2, rd, np, pw, ev, od, gL, gD, hR, hP, hD, hS, hl⟩ := hI
  obtain ⟨⟨hP6, hOK⟩, hph, ⟨hL1, hLk, hfo⟩, ⟨hM1, hMk, hn2, hnR⟩, ⟨hT, hB⟩, ⟨hne, hno⟩, ⟨hrd, hnp, hpw, hpR⟩⟩ := id hR
  have hf0 : cells ≤ room_1.cells ∧ slots ≤ room_1.slots := ⟨Nat.le_of_succ_le hf.1, Nat.le_trans (Nat.le_add_right _ _) hf.2⟩
  have hTk : ∀ k, sm_kv (U.1 k) := fun k => by rw [← hT.1]; exact hB.1 k
  have hC40 : C.2.2.2.2.2.2.2 ≤ 40 := hpR.1.2
  have hcx : C.2.2.2.2.2.1 ≤ C.2.2.2.2.2.2.2 := hpR.1.1
  have hw8 : C.2.2.2.2.2.2.1 ≤ 8 := sm_pR8 hpR
  have hwt : C.2.2.2.2.2.2.1 ≤ 40 := Nat.le_trans hw8 (by decide)
  have hrd40 : rd ≤ 40 := by rw [hrd]; exact hC40
  have hpw40 : pw ≤ 40 := by rw [hpw]; exact hwt
  have hn120 : n2 ≤ 120 := by rw [hn2]; exact hM1
  refine lv_aload_n hx hb dL_law_1335 rfl (lv_at hl 1 rfl) ?_
  refine sw_arg X hS (i := i) (j := 1) (jI := 1) (by omega) (by decide) hl 0 rfl 5 rfl dL_law_1336 dL_law_1337 dL_law_1339 dL_law_1340 dL_law_1341 ?_
  refine sw_arg X hS (i := i) (j := 2) (jI := 2) (by omega) (by decide) hl 0 rfl 5 rfl dL_law_1342 dL_law_1343 dL_law_1345 dL_law_1346 dL_law_1347 ?_
  refine lv_aload_n hx hb dL_law_1348 rfl (lv_at hl 3 rfl) ?_
  refine sm_cH (rest := []) hC hK hP hD hS hZ (h_firstUnlike (o := oL) (c_X6_firstUnlike_i D ad P S T Lg M C cp ph fo ne no rc (sw_o D oL oD gL gD (sm_w7 D am P S U Lg nm Z cq ph th n2 fo rd np pw ev od rc [])) hlt (xs (i + 1)) (xs (i + 2)) hbk) rfl (fun w h => ⟨gL, by rw [h]; rfl⟩) (fun v h => by cases h) (fun E h => Or.inl (Sum.inl.inj h).symm)) qyL_firstUnlike wl_RL_184 ⟨(Nat.le_of_ble_eq_true rfl), (Nat.le_of_ble_eq_true rfl)⟩ rfl hl.1 rfl (Nat.le_of_ble_eq_true rfl) dL_law_1349 hf (fun k1 w1 H locs hB1 hP hD hS => ?_)
  obtain ⟨rfl, cp1, gL1, rfl, hg⟩ := sw_bI (K := 1) (x := 0) (f := fun (a : sm_Cp) (g : Nat → Int64) => sm_w6 D ad P S T Lg M C a ph fo ne no rc (sw_o D oL oD g gD (sm_w7 D am P S U Lg nm Z cq ph th n2 fo rd np pw ev od rc []))) (g0 := gL) (fun _ _ _ => rfl) (fun w h => ⟨cp, h⟩) (sw_hx (sw_n2 sw_dAN) hB1)
  refine lv_istore (lv' := [(6, .int 1), (0, .ref b), (1, .ref (ad 0)), (2, .ref (am 0)), (3, .ref oL), (4, .ref oD), (5, .int (nI i))]) hx hb dL_law_1352 hl (by decide) rfl (fun ls hl => ?_)
  have hP := sw_tP hP
  have hD := sw_tD hD
  refine lv_aload_n hx hb dL_law_1354 rfl (lv_at hl 3 rfl) ?_
  refine sw_arg X hS (i := i) (j := 1) (jI := 1) (by omega) (by decide) hl 1 rfl 6 rfl dL_law_1355 dL_law_1356 dL_law_1358 dL_law_1359 dL_law_1360 ?_
  refine sw_arg X hS (i := i) (j := 2) (jI := 2) (by omega) (by decide) hl 1 rfl 6 rfl dL_law_1361 dL_law_1362 dL_law_1364 dL_law_1365 dL_law_1366 ?_
  refine sm_cVCr (rest := []) hC hK hP hD hS hZ (c_X7_firstUnlike_i D am P S U Lg nm Z cq ph th n2 fo rd np pw ev od rc _ (xs (i + 1)) (xs (i + 2)) hbk) qyX7_firstUnlike wl_RL_187 ⟨(Nat.le_of_ble_eq_true rfl), (Nat.le_of_ble_eq_true rfl)⟩ 0 rfl rfl rfl hl.1 rfl (Nat.le_of_ble_eq_true rfl) dL_law_1367 hf (fun w1 H locs hB1 hP hD hS => ?_)
  obtain rfl := hB1
  exact sw_tI hC hK hP (c_X7_thrown _ _ _ _ _ _ _ _ _ _ _ _ _ _ _ _ _ _ _ _) rfl (rfl) 53 rfl hg (fun z => absurd z (by decide)) hl hf (by decide) dL_law_1370 dL_law_1372 dL_law_1373 dL_law_1376 dL_law_1378 dL_law_1383 dL_law_1385 dL_law_1388 dL_law_1389 dL_law_1390 dL_law_1391 dL_law_1393 dL_law_1394 dL_law_1395 dL_law_1400 (fun ls hl => go _ _ _ (sw_mk (hR) hP hD hS hl (rfl) (rfl) (rfl) (rfl) (rfl) (rfl)))
set_option maxRecDepth 100000 in
theorem sw_c_firstUnlike {p : Program} {l : Launch} {e : Env} {s : State} {m : MethodId} {below : List Frame} {meth : Method} {c : Code} {H : Heap} {locs : List Loc} {cells slots : Nat} {Q : State → Prop} {ls : Array Slot} {D : sm_G} {b L i : Nat} {xs : Nat → Int32} {ad am : Nat → Nat} {oL oD : Nat} {lo hj : Nat} (hlo : ¬ hj < lo) (hhi : hj < 40) (e1 : xs (i + 1) = nI lo) (e2 : xs (i + 2) = nI hj) (X : sw_X p l s m meth c b L xs D) (hi : i + 4 ≤ L) (hI : sw_I s D b ad am oL oD (nI i) ls H locs) (hf : cells + 1 ≤ room_1.cells ∧ slots + 6 ≤ room_1.slots) (go : ∀ (H : Heap) (locs : List Loc) (ls : Array Slot), sw_I s D b ad am oL oD (nI i) ls H locs → W p l e room_1 s m #[Value.ref b] below meth c H locs (cells + 1) (slots + 6) Q (F0 m 1616 ls [])) : W p l e room_1 s m #[Value.ref b] below meth c H locs cells slots Q (F0 m 1335 ls []) := by
  obtain ⟨hC, hK, hZ, hlt, hX, hbl, hL⟩ := id X
  obtain ⟨hx, hb, hml, hrt, hown, hlk, hts⟩ := id hC
  obtain ⟨P, S, T, Lg, M, C, cp, ph, fo, ne, no, rc, U, nm, Z, cq, th, n2, rd, np, pw, ev, od, gL, gD, hR, hP, hD, hS, hl⟩ := hI
  obtain ⟨⟨hP6, hOK⟩, hph, ⟨hL1, hLk, hfo⟩, ⟨hM1, hMk, hn2, hnR⟩, ⟨hT, hB⟩, ⟨hne, hno⟩, ⟨hrd, hnp, hpw, hpR⟩⟩ := id hR
  have hf0 : cells ≤ room_1.cells ∧ slots ≤ room_1.slots := ⟨Nat.le_of_succ_le hf.1, Nat.le_trans (Nat.le_add_right _ _) hf.2⟩
  have hTk : ∀ k, sm_kv (U.1 k) := fun k => by rw [← hT.1]; exact hB.1 k
  have hC40 : C.2.2.2.2.2.2.2 ≤ 40 := hpR.1.2
  have hcx : C.2.2.2.2.2.1 ≤ C.2.2.2.2.2.2.2 := hpR.1.1
  have hw8 : C.2.2.2.2.2.2.1 ≤ 8 := sm_pR8 hpR
  have hwt : C.2.2.2.2.2.2.1 ≤ 40 := Nat.le_trans hw8 (by decide)
  have hrd40 : rd ≤ 40 := by rw [hrd]; exact hC40
  have hpw40 : pw ≤ 40 := by rw [hpw]; exact hwt
  have hn120 : n2 ≤ 120 := by rw [hn2]; exact hM1
  refine lv_aload_n hx hb dL_law_1335 rfl (lv_at hl 1 rfl) ?_
  refine sw_arg X hS (i := i) (j := 1) (jI := 1) (by omega) (by decide) hl 0 rfl 5 rfl dL_law_1336 dL_law_1337 dL_law_1339 dL_law_1340 dL_law_1341 ?_
  rw [e1]
  refine sw_arg X hS (i := i) (j := 2) (jI := 2) (by omega) (by decide) hl 0 rfl 5 rfl dL_law_1342 dL_law_1343 dL_law_1345 dL_law_1346 dL_law_1347 ?_
  rw [e2]
  refine lv_aload_n hx hb dL_law_1348 rfl (lv_at hl 3 rfl) ?_
  refine sm_cH (rest := []) hC hK hP hD hS hZ (h_firstUnlike (o := oL) (c_X6_firstUnlike D ad P S T Lg M C cp ph fo ne no rc (sw_o D oL oD gL gD (sm_w7 D am P S U Lg nm Z cq ph th n2 fo rd np pw ev od rc [])) hlt lo hj hlo hhi hP6) rfl (fun w h => ⟨gL, by obtain ⟨_, rfl⟩ := h; rfl⟩) (fun v h => ⟨_, (sm_rsv h).2⟩) (fun E h => sm_e2 (sm_r2n _) h)) qyL_firstUnlike wl_RL_184 ⟨(Nat.le_of_ble_eq_true rfl), (Nat.le_of_ble_eq_true rfl)⟩ rfl hl.1 rfl (Nat.le_of_ble_eq_true rfl) dL_law_1349 hf (fun k1 w1 H locs hB1 hP hD hS => ?_)
  obtain ⟨rfl, cp1, gL1, rfl, hg⟩ := sw_bI (K := (sm_k2n (sm_ss P S T lo hj))) (x := (nI (sm_fuG P S T 40 lo hj 1).1)) (f := fun (a : sm_Cp) (g : Nat → Int64) => sm_w6 D ad P S T Lg M C a ph fo ne no (if sm_ss P S T lo hj = true then 1 else (sm_fuG P S T 40 lo hj 1).2) (sw_o D oL oD g gD (sm_w7 D am P S U Lg nm Z cq ph th n2 fo rd np pw ev od rc []))) (g0 := gL) (fun _ _ _ => rfl) (fun w h => h) (sm_h2 sw_dAN (sm_r2n _) hB1)
  refine lv_istore (lv' := [(6, .int (sm_k2n (sm_ss P S T lo hj))), (0, .ref b), (1, .ref (ad 0)), (2, .ref (am 0)), (3, .ref oL), (4, .ref oD), (5, .int (nI i))]) hx hb dL_law_1352 hl (by decide) rfl (fun ls hl => ?_)
  have hP := sw_tP hP
  have hD := sw_tD hD
  refine lv_aload_n hx hb dL_law_1354 rfl (lv_at hl 3 rfl) ?_
  refine sw_arg X hS (i := i) (j := 1) (jI := 1) (by omega) (by decide) hl 1 rfl 6 rfl dL_law_1355 dL_law_1356 dL_law_1358 dL_law_1359 dL_law_1360 ?_
  rw [e1]
  refine sw_arg X hS (i := i) (j := 2) (jI := 2) (by omega) (by decide) hl 1 rfl 6 rfl dL_law_1361 dL_law_1362 dL_law_1364 dL_law_1365 dL_law_1366 ?_
  rw [e2]
  refine sm_cVCr (rest := []) hC hK hP hD hS hZ (c_X7_firstUnlike D am P S U Lg nm Z cq ph th n2 fo rd np pw ev od rc _ lo hj hlo hhi hP6 hOK) qyX7_firstUnlike wl_RL_187 ⟨(Nat.le_of_ble_eq_true rfl), (Nat.le_of_ble_eq_true rfl)⟩ 0 rfl rfl rfl hl.1 rfl (Nat.le_of_ble_eq_true rfl) dL_law_1367 hf (fun w1 H locs hB1 hP hD hS => ?_)
  obtain ⟨cq1, rfl⟩ := hB1
  obtain ⟨q1, q2, q3⟩ := sw_m22 (lo := lo) (hi := hj) hR
  exact sw_tI hC hK hP (c_X7_thrown _ _ _ _ _ _ _ _ _ _ _ _ _ _ _ _ _ _ _ _) rfl (q1) 53 rfl hg (q2) hl hf (by decide) dL_law_1370 dL_law_1372 dL_law_1373 dL_law_1376 dL_law_1378 dL_law_1383 dL_law_1385 dL_law_1388 dL_law_1389 dL_law_1390 dL_law_1391 dL_law_1393 dL_law_1394 dL_law_1395 dL_law_1400 (fun ls hl => go _ _ _ (sw_mk (hR) hP hD hS hl (rfl) (rfl) (rfl) (rfl) (rfl) (q3)))
set_option maxRecDepth 100000 in
theorem sw_c_compared {p : Program} {l : Launch} {e : Env} {s : State} {m : MethodId} {below : List Frame} {meth : Method} {c : Code} {H : Heap} {locs : List Loc} {cells slots : Nat} {Q : State → Prop} {ls : Array Slot} {D : sm_G} {b L i : Nat} {xs : Nat → Int32} {ad am : Nat → Nat} {oL oD : Nat} (X : sw_X p l s m meth c b L xs D) (hi : i + 4 ≤ L) (hI : sw_I s D b ad am oL oD (nI i) ls H locs) (hf : cells + 1 ≤ room_1.cells ∧ slots + 6 ≤ room_1.slots) (go : ∀ (H : Heap) (locs : List Loc) (ls : Array Slot), sw_I s D b ad am oL oD (nI i) ls H locs → W p l e room_1 s m #[Value.ref b] below meth c H locs (cells + 1) (slots + 6) Q (F0 m 1616 ls [])) : W p l e room_1 s m #[Value.ref b] below meth c H locs cells slots Q (F0 m 1403 ls []) := by
  obtain ⟨hC, hK, hZ, hlt, hX, hbl, hL⟩ := id X
  obtain ⟨hx, hb, hml, hrt, hown, hlk, hts⟩ := id hC
  obtain ⟨P, S, T, Lg, M, C, cp, ph, fo, ne, no, rc, U, nm, Z, cq, th, n2, rd, np, pw, ev, od, gL, gD, hR, hP, hD, hS, hl⟩ := hI
  obtain ⟨⟨hP6, hOK⟩, hph, ⟨hL1, hLk, hfo⟩, ⟨hM1, hMk, hn2, hnR⟩, ⟨hT, hB⟩, ⟨hne, hno⟩, ⟨hrd, hnp, hpw, hpR⟩⟩ := id hR
  have hf0 : cells ≤ room_1.cells ∧ slots ≤ room_1.slots := ⟨Nat.le_of_succ_le hf.1, Nat.le_trans (Nat.le_add_right _ _) hf.2⟩
  have hTk : ∀ k, sm_kv (U.1 k) := fun k => by rw [← hT.1]; exact hB.1 k
  have hC40 : C.2.2.2.2.2.2.2 ≤ 40 := hpR.1.2
  have hcx : C.2.2.2.2.2.1 ≤ C.2.2.2.2.2.2.2 := hpR.1.1
  have hw8 : C.2.2.2.2.2.2.1 ≤ 8 := sm_pR8 hpR
  have hwt : C.2.2.2.2.2.2.1 ≤ 40 := Nat.le_trans hw8 (by decide)
  have hrd40 : rd ≤ 40 := by rw [hrd]; exact hC40
  have hpw40 : pw ≤ 40 := by rw [hpw]; exact hwt
  have hn120 : n2 ≤ 120 := by rw [hn2]; exact hM1
  refine lv_aload_n hx hb dL_law_1403 rfl (lv_at hl 1 rfl) ?_
  refine sm_cVPr (rest := []) hC hK hP (c_X6_compared D ad P S T Lg M C cp ph fo ne no rc (sw_o D oL oD gL gD (sm_w7 D am P S U Lg nm Z cq ph th n2 fo rd np pw ev od rc []))) qyX6_compared wl_RL_188 ⟨(Nat.le_of_ble_eq_true rfl), (Nat.le_of_ble_eq_true rfl)⟩ 0 rfl rfl rfl hl.1 rfl (Nat.le_of_ble_eq_true rfl) dL_law_1404 hf0 ?_
  have hP := sw_tP hP
  have hD := sw_tD hD
  refine lv_aload_n hx hb dL_law_1407 rfl (lv_at hl 2 rfl) ?_
  refine sm_cVCr (rest := [.int (nI rc)]) hC hK hP hD hS hZ (c_X7_compared D am P S U Lg nm Z cq ph th n2 fo rd np pw ev od rc _) qyX7_compared wl_RL_191 ⟨(Nat.le_of_ble_eq_true rfl), (Nat.le_of_ble_eq_true rfl)⟩ 0 rfl rfl rfl hl.1 rfl (Nat.le_of_ble_eq_true rfl) dL_law_1408 hf0 (fun w1 H locs hB1 hP hD hS => ?_)
  obtain rfl := hB1
  refine lv_icmp_eq (tgt := 1616) hx hb dL_law_1411 (by decide) (fun _ => ?_) (fun z => absurd (rfl) z)
  exact W.widen (k := cells + 1) (n := slots + 6) (Nat.le_succ _) (Nat.le_add_right _ _) (go _ _ _ (sw_mk hR hP hD hS hl rfl rfl rfl rfl rfl rfl))
set_option maxRecDepth 100000 in
theorem sw_c_goal_i {p : Program} {l : Launch} {e : Env} {s : State} {m : MethodId} {below : List Frame} {meth : Method} {c : Code} {H : Heap} {locs : List Loc} {cells slots : Nat} {Q : State → Prop} {ls : Array Slot} {D : sm_G} {b L i : Nat} {xs : Nat → Int32} {ad am : Nat → Nat} {oL oD : Nat} (hbk : sm_isKey (xs (i + 1)) = false) (X : sw_X p l s m meth c b L xs D) (hi : i + 4 ≤ L) (hI : sw_I s D b ad am oL oD (nI i) ls H locs) (hf : cells + 1 ≤ room_1.cells ∧ slots + 6 ≤ room_1.slots) (go : ∀ (H : Heap) (locs : List Loc) (ls : Array Slot), sw_I s D b ad am oL oD (nI i) ls H locs → W p l e room_1 s m #[Value.ref b] below meth c H locs (cells + 1) (slots + 6) Q (F0 m 1616 ls [])) : W p l e room_1 s m #[Value.ref b] below meth c H locs cells slots Q (F0 m 1416 ls []) := by
  obtain ⟨hC, hK, hZ, hlt, hX, hbl, hL⟩ := id X
  obtain ⟨hx, hb, hml, hrt, hown, hlk, hts⟩ := id hC
  obtain ⟨P, S, T, Lg, M, C, cp, ph, fo, ne, no, rc, U, nm, Z, cq, th, n2, rd, np, pw, ev, od, gL, gD, hR, hP, hD, hS, hl⟩ := hI
  obtain ⟨⟨hP6, hOK⟩, hph, ⟨hL1, hLk, hfo⟩, ⟨hM1, hMk, hn2, hnR⟩, ⟨hT, hB⟩, ⟨hne, hno⟩, ⟨hrd, hnp, hpw, hpR⟩⟩ := id hR
  have hf0 : cells ≤ room_1.cells ∧ slots ≤ room_1.slots := ⟨Nat.le_of_succ_le hf.1, Nat.le_trans (Nat.le_add_right _ _) hf.2⟩
  have hTk : ∀ k, sm_kv (U.1 k) := fun k => by rw [← hT.1]; exact hB.1 k
  have hC40 : C.2.2.2.2.2.2.2 ≤ 40 := hpR.1.2
  have hcx : C.2.2.2.2.2.1 ≤ C.2.2.2.2.2.2.2 := hpR.1.1
  have hw8 : C.2.2.2.2.2.2.1 ≤ 8 := sm_pR8 hpR
  have hwt : C.2.2.2.2.2.2.1 ≤ 40 := Nat.le_trans hw8 (by decide)
  have hrd40 : rd ≤ 40 := by rw [hrd]; exact hC40
  have hpw40 : pw ≤ 40 := by rw [hpw]; exact hwt
  have hn120 : n2 ≤ 120 := by rw [hn2]; exact hM1
  refine lv_aload_n hx hb dL_law_1416 rfl (lv_at hl 1 rfl) ?_
  refine sw_arg X hS (i := i) (j := 1) (jI := 1) (by omega) (by decide) hl 0 rfl 5 rfl dL_law_1417 dL_law_1418 dL_law_1420 dL_law_1421 dL_law_1422 ?_
  refine lv_aload_n hx hb dL_law_1423 rfl (lv_at hl 3 rfl) ?_
  refine sm_cH (rest := []) hC hK hP hD hS hZ (h_goal (o := oL) (c_X6_goal_i D ad P S T Lg M C cp ph fo ne no rc (sw_o D oL oD gL gD (sm_w7 D am P S U Lg nm Z cq ph th n2 fo rd np pw ev od rc [])) hlt (xs (i + 1)) hbk) rfl (fun w h => ⟨gL, by rw [h]; rfl⟩) (fun v h => by cases h) (fun E h => Or.inl (Sum.inl.inj h).symm)) qyL_goal wl_RL_192 ⟨(Nat.le_of_ble_eq_true rfl), (Nat.le_of_ble_eq_true rfl)⟩ rfl hl.1 rfl (Nat.le_of_ble_eq_true rfl) dL_law_1424 hf (fun k1 w1 H locs hB1 hP hD hS => ?_)
  obtain ⟨rfl, cp1, gL1, rfl, hg⟩ := sw_bI (K := 1) (x := 0) (f := fun (a : sm_Cp) (g : Nat → Int64) => sm_w6 D ad P S T Lg M C a ph fo ne no rc (sw_o D oL oD g gD (sm_w7 D am P S U Lg nm Z cq ph th n2 fo rd np pw ev od rc []))) (g0 := gL) (fun _ _ _ => rfl) (fun w h => ⟨cp, h⟩) (sw_hx (sw_n2 sw_dAS) hB1)
  refine lv_istore (lv' := [(6, .int 1), (0, .ref b), (1, .ref (ad 0)), (2, .ref (am 0)), (3, .ref oL), (4, .ref oD), (5, .int (nI i))]) hx hb dL_law_1427 hl (by decide) rfl (fun ls hl => ?_)
  have hP := sw_tP hP
  have hD := sw_tD hD
  refine lv_aload_n hx hb dL_law_1429 rfl (lv_at hl 3 rfl) ?_
  refine sw_arg X hS (i := i) (j := 1) (jI := 1) (by omega) (by decide) hl 1 rfl 6 rfl dL_law_1430 dL_law_1431 dL_law_1433 dL_law_1434 dL_law_1435 ?_
  refine sm_cVCr (rest := []) hC hK hP hD hS hZ (c_X7_goal_i D am P S U Lg nm Z cq ph th n2 fo rd np pw ev od rc _ (xs (i + 1)) hbk) qyX7_goal wl_RL_194 ⟨(Nat.le_of_ble_eq_true rfl), (Nat.le_of_ble_eq_true rfl)⟩ 0 rfl rfl rfl hl.1 rfl (Nat.le_of_ble_eq_true rfl) dL_law_1436 hf (fun w1 H locs hB1 hP hD hS => ?_)
  obtain rfl := hB1
  exact sw_tI hC hK hP (c_X7_thrown _ _ _ _ _ _ _ _ _ _ _ _ _ _ _ _ _ _ _ _) rfl (rfl) 53 rfl hg (fun z => absurd z (by decide)) hl hf (by decide) dL_law_1439 dL_law_1441 dL_law_1442 dL_law_1445 dL_law_1447 dL_law_1452 dL_law_1454 dL_law_1457 dL_law_1458 dL_law_1459 dL_law_1460 dL_law_1462 dL_law_1463 dL_law_1464 dL_law_1469 (fun ls hl => go _ _ _ (sw_mk (hR) hP hD hS hl (rfl) (rfl) (rfl) (rfl) (rfl) (rfl)))
set_option maxRecDepth 100000 in
theorem sw_c_goal {p : Program} {l : Launch} {e : Env} {s : State} {m : MethodId} {below : List Frame} {meth : Method} {c : Code} {H : Heap} {locs : List Loc} {cells slots : Nat} {Q : State → Prop} {ls : Array Slot} {D : sm_G} {b L i : Nat} {xs : Nat → Int32} {ad am : Nat → Nat} {oL oD : Nat} {k : Nat} (hk : k < 40) (e1 : xs (i + 1) = nI k) (X : sw_X p l s m meth c b L xs D) (hi : i + 4 ≤ L) (hI : sw_I s D b ad am oL oD (nI i) ls H locs) (hf : cells + 1 ≤ room_1.cells ∧ slots + 6 ≤ room_1.slots) (go : ∀ (H : Heap) (locs : List Loc) (ls : Array Slot), sw_I s D b ad am oL oD (nI i) ls H locs → W p l e room_1 s m #[Value.ref b] below meth c H locs (cells + 1) (slots + 6) Q (F0 m 1616 ls [])) : W p l e room_1 s m #[Value.ref b] below meth c H locs cells slots Q (F0 m 1416 ls []) := by
  obtain ⟨hC, hK, hZ, hlt, hX, hbl, hL⟩ := id X
  obtain ⟨hx, hb, hml, hrt, hown, hlk, hts⟩ := id hC
  obtain ⟨P, S, T, Lg, M, C, cp, ph, fo, ne, no, rc, U, nm, Z, cq, th, n2, rd, np, pw, ev, od, gL, gD, hR, hP, hD, hS, hl⟩ := hI
  obtain ⟨⟨hP6, hOK⟩, hph, ⟨hL1, hLk, hfo⟩, ⟨hM1, hMk, hn2, hnR⟩, ⟨hT, hB⟩, ⟨hne, hno⟩, ⟨hrd, hnp, hpw, hpR⟩⟩ := id hR
  have hf0 : cells ≤ room_1.cells ∧ slots ≤ room_1.slots := ⟨Nat.le_of_succ_le hf.1, Nat.le_trans (Nat.le_add_right _ _) hf.2⟩
  have hTk : ∀ k, sm_kv (U.1 k) := fun k => by rw [← hT.1]; exact hB.1 k
  have hC40 : C.2.2.2.2.2.2.2 ≤ 40 := hpR.1.2
  have hcx : C.2.2.2.2.2.1 ≤ C.2.2.2.2.2.2.2 := hpR.1.1
  have hw8 : C.2.2.2.2.2.2.1 ≤ 8 := sm_pR8 hpR
  have hwt : C.2.2.2.2.2.2.1 ≤ 40 := Nat.le_trans hw8 (by decide)
  have hrd40 : rd ≤ 40 := by rw [hrd]; exact hC40
  have hpw40 : pw ≤ 40 := by rw [hpw]; exact hwt
  have hn120 : n2 ≤ 120 := by rw [hn2]; exact hM1
  refine lv_aload_n hx hb dL_law_1416 rfl (lv_at hl 1 rfl) ?_
  refine sw_arg X hS (i := i) (j := 1) (jI := 1) (by omega) (by decide) hl 0 rfl 5 rfl dL_law_1417 dL_law_1418 dL_law_1420 dL_law_1421 dL_law_1422 ?_
  rw [e1]
  refine lv_aload_n hx hb dL_law_1423 rfl (lv_at hl 3 rfl) ?_
  refine sm_cH (rest := []) hC hK hP hD hS hZ (h_goal (o := oL) (c_X6_goal D ad P S T Lg M C cp ph fo ne no rc (sw_o D oL oD gL gD (sm_w7 D am P S U Lg nm Z cq ph th n2 fo rd np pw ev od rc [])) hlt k hk hP6) rfl (fun w h => ⟨gL, by obtain ⟨_, rfl⟩ := h; rfl⟩) (fun v h => ⟨_, (sm_rsv h).2⟩) (fun E h => sm_e2 (sm_rGl _) h)) qyL_goal wl_RL_192 ⟨(Nat.le_of_ble_eq_true rfl), (Nat.le_of_ble_eq_true rfl)⟩ rfl hl.1 rfl (Nat.le_of_ble_eq_true rfl) dL_law_1424 hf (fun k1 w1 H locs hB1 hP hD hS => ?_)
  obtain ⟨rfl, cp1, gL1, rfl, hg⟩ := sw_bI (K := (sm_kGl ph)) (x := (sm_glF P S k)) (f := fun (a : sm_Cp) (g : Nat → Int64) => sm_w6 D ad P S T Lg M C a ph fo ne no rc (sw_o D oL oD g gD (sm_w7 D am P S U Lg nm Z cq ph th n2 fo rd np pw ev od rc []))) (g0 := gL) (fun _ _ _ => rfl) (fun w h => h) (sm_h2 sw_dAS (sm_rGl _) hB1)
  refine lv_istore (lv' := [(6, .int (sm_kGl ph)), (0, .ref b), (1, .ref (ad 0)), (2, .ref (am 0)), (3, .ref oL), (4, .ref oD), (5, .int (nI i))]) hx hb dL_law_1427 hl (by decide) rfl (fun ls hl => ?_)
  have hP := sw_tP hP
  have hD := sw_tD hD
  refine lv_aload_n hx hb dL_law_1429 rfl (lv_at hl 3 rfl) ?_
  refine sw_arg X hS (i := i) (j := 1) (jI := 1) (by omega) (by decide) hl 1 rfl 6 rfl dL_law_1430 dL_law_1431 dL_law_1433 dL_law_1434 dL_law_1435 ?_
  rw [e1]
  refine sm_cVCr (rest := []) hC hK hP hD hS hZ (c_X7_goal D am P S U Lg nm Z cq ph th n2 fo rd np pw ev od rc _ k hk hP6 hOK) qyX7_goal wl_RL_194 ⟨(Nat.le_of_ble_eq_true rfl), (Nat.le_of_ble_eq_true rfl)⟩ 0 rfl rfl rfl hl.1 rfl (Nat.le_of_ble_eq_true rfl) dL_law_1436 hf (fun w1 H locs hB1 hP hD hS => ?_)
  obtain ⟨cq1, rfl⟩ := hB1
  exact sw_tI hC hK hP (c_X7_thrown _ _ _ _ _ _ _ _ _ _ _ _ _ _ _ _ _ _ _ _) rfl (rfl) 53 rfl hg (fun z => if_pos z) hl hf (by decide) dL_law_1439 dL_law_1441 dL_law_1442 dL_law_1445 dL_law_1447 dL_law_1452 dL_law_1454 dL_law_1457 dL_law_1458 dL_law_1459 dL_law_1460 dL_law_1462 dL_law_1463 dL_law_1464 dL_law_1469 (fun ls hl => go _ _ _ (sw_mk (hR) hP hD hS hl (rfl) (rfl) (rfl) (rfl) (rfl) (rfl)))
set_option maxRecDepth 100000 in
theorem sw_c_isAllMoved {p : Program} {l : Launch} {e : Env} {s : State} {m : MethodId} {below : List Frame} {meth : Method} {c : Code} {H : Heap} {locs : List Loc} {cells slots : Nat} {Q : State → Prop} {ls : Array Slot} {D : sm_G} {b L i : Nat} {xs : Nat → Int32} {ad am : Nat → Nat} {oL oD : Nat} (X : sw_X p l s m meth c b L xs D) (hi : i + 4 ≤ L) (hI : sw_I s D b ad am oL oD (nI i) ls H locs) (hf : cells + 1 ≤ room_1.cells ∧ slots + 6 ≤ room_1.slots) (go : ∀ (H : Heap) (locs : List Loc) (ls : Array Slot), sw_I s D b ad am oL oD (nI i) ls H locs → W p l e room_1 s m #[Value.ref b] below meth c H locs (cells + 1) (slots + 6) Q (F0 m 1616 ls [])) : W p l e room_1 s m #[Value.ref b] below meth c H locs cells slots Q (F0 m 1538 ls []) := by
  obtain ⟨hC, hK, hZ, hlt, hX, hbl, hL⟩ := id X
  obtain ⟨hx, hb, hml, hrt, hown, hlk, hts⟩ := id hC
  obtain ⟨P, S, T, Lg, M, C, cp, ph, fo, ne, no, rc, U, nm, Z, cq, th, n2, rd, np, pw, ev, od, gL, gD, hR, hP, hD, hS, hl⟩ := hI
  obtain ⟨⟨hP6, hOK⟩, hph, ⟨hL1, hLk, hfo⟩, ⟨hM1, hMk, hn2, hnR⟩, ⟨hT, hB⟩, ⟨hne, hno⟩, ⟨hrd, hnp, hpw, hpR⟩⟩ := id hR
  have hf0 : cells ≤ room_1.cells ∧ slots ≤ room_1.slots := ⟨Nat.le_of_succ_le hf.1, Nat.le_trans (Nat.le_add_right _ _) hf.2⟩
  have hTk : ∀ k, sm_kv (U.1 k) := fun k => by rw [← hT.1]; exact hB.1 k
  have hC40 : C.2.2.2.2.2.2.2 ≤ 40 := hpR.1.2
  have hcx : C.2.2.2.2.2.1 ≤ C.2.2.2.2.2.2.2 := hpR.1.1
  have hw8 : C.2.2.2.2.2.2.1 ≤ 8 := sm_pR8 hpR
  have hwt : C.2.2.2.2.2.2.1 ≤ 40 := Nat.le_trans hw8 (by decide)
  have hrd40 : rd ≤ 40 := by rw [hrd]; exact hC40
  have hpw40 : pw ≤ 40 := by rw [hpw]; exact hwt
  have hn120 : n2 ≤ 120 := by rw [hn2]; exact hM1
  refine lv_aload_n hx hb dL_law_1538 rfl (lv_at hl 1 rfl) ?_
  refine sm_cVCr (rest := []) hC hK hP hD hS hZ (c_X6_isAllMoved D ad P S T Lg M C cp ph fo ne no rc (sw_o D oL oD gL gD (sm_w7 D am P S U Lg nm Z cq ph th n2 fo rd np pw ev od rc [])) hP6) qyX6_isAllMoved wl_RL_199 ⟨(Nat.le_of_ble_eq_true rfl), (Nat.le_of_ble_eq_true rfl)⟩ 0 rfl rfl rfl hl.1 rfl (Nat.le_of_ble_eq_true rfl) dL_law_1539 hf0 (fun w1 H locs hB1 hP hD hS => ?_)
  obtain ⟨cp1, rfl⟩ := hB1
  have hP := sw_tP hP
  have hD := sw_tD hD
  refine lv_aload_n hx hb dL_law_1542 rfl (lv_at hl 2 rfl) ?_
  refine sm_cVCr (rest := [.int (sm_b (sm_iam P S T))]) hC hK hP hD hS hZ (c_X7_isAllMoved D am P S U Lg nm Z cq ph th n2 fo rd np pw ev od rc _ hP6 hOK) qyX7_isAllMoved wl_RL_203 ⟨(Nat.le_of_ble_eq_true rfl), (Nat.le_of_ble_eq_true rfl)⟩ 0 rfl rfl rfl hl.1 rfl (Nat.le_of_ble_eq_true rfl) dL_law_1543 hf0 (fun w1 H locs hB1 hP hD hS => ?_)
  obtain ⟨cq1, rfl⟩ := hB1
  refine lv_icmp_eq (tgt := 1616) hx hb dL_law_1546 (by decide) (fun _ => ?_) (fun z => absurd (by rw [sm_iamE hT]) z)
  exact W.widen (k := cells + 1) (n := slots + 6) (Nat.le_succ _) (Nat.le_add_right _ _) (go _ _ _ (sw_mk hR hP hD hS hl rfl rfl rfl rfl rfl rfl))
