/-! the figures -/
section
variable {l : Launch} (D : sm_G) (ad : Nat → Nat) (P : sm_Sp) (S : sm_Rw) (T : sm_Tg) (L M : sm_Lg) (C : sm_Pt) (cp : sm_Cp) (ph : Int32) (fo ne no rc : Nat) (wr : va_W)
set_option maxHeartbeats 1000000 in
set_option maxRecDepth 100000 in
theorem c_X6_movedShare (hlt : l.stackTraces = false) (hP6 : P.1 ≤ 6) : sm_MX l yX6_movedShare cX6_movedShare 2 (some .float) 6 110 [.ref (ad 0)] D (sm_w6 D ad P S T L M C cp ph fo ne no rc wr) (fun w => ∃ (cp' : sm_Cp), w = sm_w6 D ad P S T L M C (cp') ph fo ne no rc wr) (sm_rs sm_AR sm_AR sm_AR (sm_k1 (sm_nz (sm_cnG S.1 40 0 0))) (some (.float (FP.fdiv (FP.i2f (nI (sm_cnG (fun i => decide (sm_stF P S T i = 101)) 40 0 0))) (FP.i2f (nI (sm_cnG S.1 40 0 0))))))) := by
  refine sm_metX (own := RX6) (by decide) rfl (Nat.le_of_ble_eq_true rfl) ?_
  intro p e s m below meth c ls hC htab hv hl
  obtain ⟨hx, hb, hml, hr, hown, hlk, hts⟩ := id hC
  obtain ⟨⟨hP, hK⟩, hD, hZ⟩ := hv
  have hS : va_S (sm_ad (sm_w6 D ad P S T L M C cp ph fo ne no rc wr)) s.heap s.heap [] := va_S.rf
  have hl : lv_has ls 2 [(0, .ref (ad 0))] := hl
  have hcn : (sm_cnG S.1 40 0 0) ≤ 40 + 0 := sm_cnle _ _ _ _
  have hcm : (sm_cnG (fun i => decide (sm_stF P S T i = 101)) 40 0 0) ≤ 40 + 0 := sm_cnle _ _ _ _
  refine lv_aload_n hx hb dX6_movedShare_0 rfl (lv_at hl 0 rfl) ?_
  refine sm_gt (ci := 6) (C := RX6) (T := TX6) (N := 12) hx hb hts inlX6 hown hK hP 0 rfl rfl 1 (by decide) wf_RX6_19 rfl dX6_movedShare_1 ?_
  refine sm_cVPr (rest := []) hC hK hP (c_X3_count_s D ad P S T L M C cp ph fo ne no rc wr ) qyX3_count wl_RX6_101 ⟨Nat.le_of_ble_eq_true rfl, Nat.le_of_ble_eq_true rfl⟩ 4 rfl rfl rfl hl.1 rfl (Nat.le_of_ble_eq_true rfl) dX6_movedShare_4 ⟨Nat.le_of_ble_eq_true rfl, Nat.le_of_ble_eq_true rfl⟩ ?_
  refine lv_istore_n (lv' := [(1, .int (nI (sm_cnG S.1 40 0 0))), (0, .ref (ad 0))]) hx hb dX6_movedShare_7 rfl hl (by decide) rfl (fun ls hl => ?_)
  refine lv_iload_n hx hb dX6_movedShare_8 rfl (lv_at hl 0 rfl) ?_
  refine lv_if_ne (tgt := 23) hx hb dX6_movedShare_9 (by decide) (fun c_1 => ?_) (fun c_1 => ?_)
  · have c_1 := sm_Nne (a := sm_cnG S.1 40 0 0) (b := 0) c_1 (by omega) (by omega)
    refine lv_aload_n hx hb dX6_movedShare_23 rfl (lv_at hl 1 rfl) ?_
    refine sm_cVCr (rest := []) hC hK hP hD hS hZ (c_X6_countMoved D ad P S T L M C cp ph fo ne no rc wr hP6) qyX6_countMoved wl_RX6_303 ⟨Nat.le_of_ble_eq_true rfl, Nat.le_of_ble_eq_true rfl⟩ 0 rfl rfl rfl hl.1 rfl (Nat.le_of_ble_eq_true rfl) dX6_movedShare_24 ⟨Nat.le_of_ble_eq_true rfl, Nat.le_of_ble_eq_true rfl⟩ (fun w1 H locs hB hP hD hS => ?_)
    obtain ⟨cp_2, rfl⟩ := hB
    refine lv_i2f hx hb dX6_movedShare_27 ?_
    refine lv_iload_n hx hb dX6_movedShare_28 rfl (lv_at hl 0 rfl) ?_
    refine lv_i2f hx hb dX6_movedShare_29 ?_
    refine lv_fdiv hx hb dX6_movedShare_30 (sm_fq1 (by omega) (by omega) (by omega)) ?_
    exact sm_fretX hC hP hD hS (by first | (have e9 : (sm_cnG S.1 40 0 0) = 0 := (by omega); simp [sm_rs, sm_k1, sm_nz, e9]; done) | (have e9 : ¬ (sm_cnG S.1 40 0 0) = 0 := (by omega); simp [sm_rs, sm_k1, sm_nz, e9]; done))  (by exact ⟨cp_2, by first | rfl | (first | (have e9 : (sm_cnG S.1 40 0 0) = 0 := (by omega); simp [sm_rs, sm_k1, sm_nz, e9]; done) | (have e9 : ¬ (sm_cnG S.1 40 0 0) = 0 := (by omega); simp [sm_rs, sm_k1, sm_nz, e9]; done))⟩) (Nat.le_of_ble_eq_true rfl) (Nat.le_of_ble_eq_true rfl) dX6_movedShare_31
  · have c_1 := sm_Neq (a := sm_cnG S.1 40 0 0) (b := 0) c_1 (by omega) (by omega)
    exact sm_throwW hlt hC htab hK hZ hP hD hS (by first | (have e9 : (sm_cnG S.1 40 0 0) = 0 := (by omega); simp [sm_rs, sm_k1, sm_nz, e9]; done) | (have e9 : ¬ (sm_cnG S.1 40 0 0) = 0 := (by omega); simp [sm_rs, sm_k1, sm_nz, e9]; done)) (by exact ⟨cp, by first | rfl | (first | (have e9 : (sm_cnG S.1 40 0 0) = 0 := (by omega); simp [sm_rs, sm_k1, sm_nz, e9]; done) | (have e9 : ¬ (sm_cnG S.1 40 0 0) = 0 := (by omega); simp [sm_rs, sm_k1, sm_nz, e9]; done))⟩) hl.1 sm_xAR (List.mem_of_getElem? (i := 23) rfl) dX6_movedShare_12 dX6_movedShare_15 dX6_movedShare_16 dX6_movedShare_19 dX6_movedShare_22 ⟨Nat.lt_of_lt_of_le (by decide) (Nat.le_of_ble_eq_true (rfl : Nat.ble 6 _ = true)), Nat.le_of_ble_eq_true rfl, Nat.le_of_ble_eq_true rfl, Nat.le_of_ble_eq_true rfl⟩ (Nat.le_of_ble_eq_true rfl) (Nat.le_of_ble_eq_true rfl)

set_option maxHeartbeats 1000000 in
set_option maxRecDepth 100000 in
theorem c_X6_meanStamp (hlt : l.stackTraces = false) (sv : Nat) (hsv : sm_asG T 40 0 0 = nI sv) (hsl : sv ≤ 120 * sm_cnG (fun i => sm_kd T i 1) 40 0 0) : sm_MX l yX6_meanStamp cX6_meanStamp 2 (some .double) 6 82 [.ref (ad 0)] D (sm_w6 D ad P S T L M C cp ph fo ne no rc wr) (fun w => w = sm_w6 D ad P S T L M C cp ph fo ne no rc wr) (sm_rs sm_AR sm_AR sm_AR (sm_k1 (sm_nz (sm_cnG (fun i => sm_kd T i 1) 40 0 0))) (some (.double (FP.ddiv (FP.i2d (nI sv)) (FP.i2d (nI (sm_cnG (fun i => sm_kd T i 1) 40 0 0))))))) := by
  refine sm_metX (own := RX6) (by decide) rfl (Nat.le_of_ble_eq_true rfl) ?_
  intro p e s m below meth c ls hC htab hv hl
  obtain ⟨hx, hb, hml, hr, hown, hlk, hts⟩ := id hC
  obtain ⟨⟨hP, hK⟩, hD, hZ⟩ := hv
  have hS : va_S (sm_ad (sm_w6 D ad P S T L M C cp ph fo ne no rc wr)) s.heap s.heap [] := va_S.rf
  have hl : lv_has ls 2 [(0, .ref (ad 0))] := hl
  have hce : (sm_cnG (fun i => sm_kd T i 1) 40 0 0) ≤ 40 + 0 := sm_cnle _ _ _ _
  refine lv_aload_n hx hb dX6_meanStamp_0 rfl (lv_at hl 0 rfl) ?_
  refine sm_gt (ci := 6) (C := RX6) (T := TX6) (N := 12) hx hb hts inlX6 hown hK hP 0 rfl rfl 2 (by decide) wf_RX6_26 rfl dX6_meanStamp_1 ?_
  refine sm_cVPr (rest := []) hC hK hP (c_X5_countEntries D ad P S T L M C cp ph fo ne no rc wr ) qyX5_countEntries wl_RX6_132 ⟨Nat.le_of_ble_eq_true rfl, Nat.le_of_ble_eq_true rfl⟩ 8 rfl rfl rfl hl.1 rfl (Nat.le_of_ble_eq_true rfl) dX6_meanStamp_4 ⟨Nat.le_of_ble_eq_true rfl, Nat.le_of_ble_eq_true rfl⟩ ?_
  refine lv_istore_n (lv' := [(1, .int (nI (sm_cnG (fun i => sm_kd T i 1) 40 0 0))), (0, .ref (ad 0))]) hx hb dX6_meanStamp_7 rfl hl (by decide) rfl (fun ls hl => ?_)
  refine lv_iload_n hx hb dX6_meanStamp_8 rfl (lv_at hl 0 rfl) ?_
  refine lv_if_ne (tgt := 23) hx hb dX6_meanStamp_9 (by decide) (fun c_1 => ?_) (fun c_1 => ?_)
  · have c_1 := sm_Nne (a := sm_cnG (fun i => sm_kd T i 1) 40 0 0) (b := 0) c_1 (by omega) (by omega)
    refine lv_aload_n hx hb dX6_meanStamp_23 rfl (lv_at hl 1 rfl) ?_
    refine sm_gt (ci := 6) (C := RX6) (T := TX6) (N := 12) hx hb hts inlX6 hown hK hP 0 rfl rfl 2 (by decide) wf_RX6_26 rfl dX6_meanStamp_24 ?_
    refine sm_cVPr (rest := []) hC hK hP (c_X5_addStamps D ad P S T L M C cp ph fo ne no rc wr ) qyX5_addStamps wl_RX6_308 ⟨Nat.le_of_ble_eq_true rfl, Nat.le_of_ble_eq_true rfl⟩ 8 rfl rfl rfl hl.1 rfl (Nat.le_of_ble_eq_true rfl) dX6_meanStamp_27 ⟨Nat.le_of_ble_eq_true rfl, Nat.le_of_ble_eq_true rfl⟩ ?_
    refine sm_re (y := nI sv) hsv ?_
    refine lv_i2d hx hb dX6_meanStamp_30 ?_
    refine lv_iload_n hx hb dX6_meanStamp_31 rfl (lv_at hl 0 rfl) ?_
    refine lv_i2d hx hb dX6_meanStamp_32 ?_
    refine lv_ddiv hx hb dX6_meanStamp_33 (sm_dq1 hsl (by omega) (by omega)) ?_
    exact sm_dretX hC hP hD hS (by first | (have e9 : (sm_cnG (fun i => sm_kd T i 1) 40 0 0) = 0 := (by omega); simp [sm_rs, sm_k1, sm_nz, e9]; done) | (have e9 : ¬ (sm_cnG (fun i => sm_kd T i 1) 40 0 0) = 0 := (by omega); simp [sm_rs, sm_k1, sm_nz, e9]; done))  (by first | exact rfl | (first | (have e9 : (sm_cnG (fun i => sm_kd T i 1) 40 0 0) = 0 := (by omega); simp [sm_rs, sm_k1, sm_nz, e9]; done) | (have e9 : ¬ (sm_cnG (fun i => sm_kd T i 1) 40 0 0) = 0 := (by omega); simp [sm_rs, sm_k1, sm_nz, e9]; done))) (Nat.le_of_ble_eq_true rfl) (Nat.le_of_ble_eq_true rfl) dX6_meanStamp_34
  · have c_1 := sm_Neq (a := sm_cnG (fun i => sm_kd T i 1) 40 0 0) (b := 0) c_1 (by omega) (by omega)
    exact sm_throwW hlt hC htab hK hZ hP hD hS (by first | (have e9 : (sm_cnG (fun i => sm_kd T i 1) 40 0 0) = 0 := (by omega); simp [sm_rs, sm_k1, sm_nz, e9]; done) | (have e9 : ¬ (sm_cnG (fun i => sm_kd T i 1) 40 0 0) = 0 := (by omega); simp [sm_rs, sm_k1, sm_nz, e9]; done)) (by first | exact rfl | (first | (have e9 : (sm_cnG (fun i => sm_kd T i 1) 40 0 0) = 0 := (by omega); simp [sm_rs, sm_k1, sm_nz, e9]; done) | (have e9 : ¬ (sm_cnG (fun i => sm_kd T i 1) 40 0 0) = 0 := (by omega); simp [sm_rs, sm_k1, sm_nz, e9]; done))) hl.1 sm_xAR (List.mem_of_getElem? (i := 24) rfl) dX6_meanStamp_12 dX6_meanStamp_15 dX6_meanStamp_16 dX6_meanStamp_19 dX6_meanStamp_22 ⟨Nat.lt_of_lt_of_le (by decide) (Nat.le_of_ble_eq_true (rfl : Nat.ble 6 _ = true)), Nat.le_of_ble_eq_true rfl, Nat.le_of_ble_eq_true rfl, Nat.le_of_ble_eq_true rfl⟩ (Nat.le_of_ble_eq_true rfl) (Nat.le_of_ble_eq_true rfl)

end
