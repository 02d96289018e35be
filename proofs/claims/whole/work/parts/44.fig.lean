/-! the figures of the reference -/
section
variable {l : Launch} (D : sm_G) (am : Nat → Nat) (P : sm_Sp) (S : sm_Rw) (T : sm_Tg) (L : sm_Lg) (nm : Nat → Bool) (Z : sm_Qt) (cp : sm_Cp) (ph : Int32) (th : Int32) (n2 fo rd np pw ev od rc : Nat) (wr : va_W)
set_option maxHeartbeats 1000000 in
set_option maxRecDepth 100000 in
theorem c_X7_movedShare (hP6 : P.1 ≤ 6) (hOK : ∀ i, i < P.1 → sm_kOK (P.2.1 i) (P.2.2 i)) : sm_MC l yX7_movedShare cX7_movedShare 1 (some .float) 5 110 [.ref (am 0)] D (sm_w7 D am P S T L nm Z cp ph th n2 fo rd np pw ev od rc wr) (fun w => ∃ (cp' : sm_Cp), w = sm_w7 D am P S T L nm Z (cp') ph (sm_k1 (sm_nz (sm_cnG S.1 40 0 0))) n2 fo rd np pw ev od rc wr) (some (.float (if sm_nz (sm_cnG S.1 40 0 0) = true then FP.fdiv (FP.i2f (nI (sm_cnG (fun i => decide (sm_stF P S T i = 101)) 40 0 0))) (FP.i2f (nI (sm_cnG S.1 40 0 0))) else FP.fconst0))) := by
  refine sm_met (own := RX7) (by decide) rfl (Nat.le_of_ble_eq_true rfl) ?_
  intro p e s m below meth c ls hC hv hl
  obtain ⟨hx, hb, hml, hr, hown, hlk, hts⟩ := id hC
  obtain ⟨⟨hP, hK⟩, hD, hZ⟩ := hv
  have hS : va_S (sm_ad (sm_w7 D am P S T L nm Z cp ph th n2 fo rd np pw ev od rc wr)) s.heap s.heap [] := va_S.rf
  have hl : lv_has ls 1 [(0, .ref (am 0))] := hl
  have hcn : (sm_cnG S.1 40 0 0) ≤ 40 + 0 := sm_cnle _ _ _ _
  have hcm : (sm_cnG (fun i => decide (sm_stF P S T i = 101)) 40 0 0) ≤ 40 + 0 := sm_cnle _ _ _ _
  refine lv_aload_n hx hb dX7_movedShare_0 rfl (lv_at hl 0 rfl) ?_
  refine lv_aload_n hx hb dX7_movedShare_1 rfl (lv_at hl 0 rfl) ?_
  refine sm_cVPr (rest := [.ref (am 0)]) hC hK hP (c_X7_manyRows D am P S T L nm Z cp ph th n2 fo rd np pw ev od rc wr ) qyX7_manyRows wl_RX7_162 ⟨Nat.le_of_ble_eq_true rfl, Nat.le_of_ble_eq_true rfl⟩ 0 rfl rfl rfl hl.1 rfl (Nat.le_of_ble_eq_true rfl) dX7_movedShare_2 ⟨Nat.le_of_ble_eq_true rfl, Nat.le_of_ble_eq_true rfl⟩ ?_
  refine lv_if_le (tgt := 12) hx hb dX7_movedShare_5 (by decide) (fun c_1 => ?_) (fun c_1 => ?_)
  · have c_1 := sm_Nnl (a := 0) (b := sm_cnG S.1 40 0 0) (sm_nl c_1) (by omega) (by omega)
    refine lv_iconst (v := 0) hx hb dX7_movedShare_12 (by decide) ?_
    refine sm_cVCr (rest := []) hC hK hP hD hS hZ (c_X7_checked D am P S T L nm Z cp ph th n2 fo rd np pw ev od rc wr false) qyX7_checked wl_RX7_158 ⟨Nat.le_of_ble_eq_true rfl, Nat.le_of_ble_eq_true rfl⟩ 0 rfl rfl rfl hl.1 rfl (Nat.le_of_ble_eq_true rfl) dX7_movedShare_13 ⟨Nat.le_of_ble_eq_true rfl, Nat.le_of_ble_eq_true rfl⟩ (fun w1 H locs hB hP hD hS => ?_)
    subst hB
    refine sm_re (y := 1) rfl ?_
    refine lv_if_le (tgt := 23) hx hb dX7_movedShare_16 (by decide) (fun h => absurd h (by decide)) (fun _ => ?_)
    refine lv_fconst0 hx hb dX7_movedShare_19 ?_
    refine lv_goto (tgt := 34) hx hb dX7_movedShare_20 (by decide) ?_
    exact sm_fretC hC hP hD hS (by first | (have e9 : (sm_cnG S.1 40 0 0) = 0 := (by omega); simp [sm_rs, sm_k1, sm_nz, e9]; done) | (have e9 : ¬ (sm_cnG S.1 40 0 0) = 0 := (by omega); simp [sm_rs, sm_k1, sm_nz, e9]; done))  (by exact ⟨cp, by first | rfl | (first | (have e9 : (sm_cnG S.1 40 0 0) = 0 := (by omega); simp [sm_rs, sm_k1, sm_nz, e9]; done) | (have e9 : ¬ (sm_cnG S.1 40 0 0) = 0 := (by omega); simp [sm_rs, sm_k1, sm_nz, e9]; done))⟩) dX7_movedShare_34
  · have c_1 := sm_Nlt (a := 0) (b := sm_cnG S.1 40 0 0) (sm_nle c_1) (by omega) (by omega)
    refine lv_iconst (v := 1) hx hb dX7_movedShare_8 (by decide) ?_
    refine lv_goto (tgt := 13) hx hb dX7_movedShare_9 (by decide) ?_
    refine sm_cVCr (rest := []) hC hK hP hD hS hZ (c_X7_checked D am P S T L nm Z cp ph th n2 fo rd np pw ev od rc wr true) qyX7_checked wl_RX7_158 ⟨Nat.le_of_ble_eq_true rfl, Nat.le_of_ble_eq_true rfl⟩ 0 rfl rfl rfl hl.1 rfl (Nat.le_of_ble_eq_true rfl) dX7_movedShare_13 ⟨Nat.le_of_ble_eq_true rfl, Nat.le_of_ble_eq_true rfl⟩ (fun w1 H locs hB hP hD hS => ?_)
    subst hB
    refine sm_re (y := 0) rfl ?_
    refine lv_if_le (tgt := 23) hx hb dX7_movedShare_16 (by decide) (fun _ => ?_) (fun h => absurd h (by decide))
    refine lv_aload_n hx hb dX7_movedShare_23 rfl (lv_at hl 0 rfl) ?_
    refine sm_cVCr (rest := []) hC hK hP hD hS hZ (c_X7_manyMoved D am P S T L nm Z cp ph 0 n2 fo rd np pw ev od rc wr hP6 hOK) qyX7_manyMoved wl_RX7_227 ⟨Nat.le_of_ble_eq_true rfl, Nat.le_of_ble_eq_true rfl⟩ 0 rfl rfl rfl hl.1 rfl (Nat.le_of_ble_eq_true rfl) dX7_movedShare_24 ⟨Nat.le_of_ble_eq_true rfl, Nat.le_of_ble_eq_true rfl⟩ (fun w1 H locs hB hP hD hS => ?_)
    obtain ⟨cp_2, rfl⟩ := hB
    refine lv_i2f hx hb dX7_movedShare_27 ?_
    refine lv_aload_n hx hb dX7_movedShare_28 rfl (lv_at hl 0 rfl) ?_
    refine sm_cVPr (rest := [.float (FP.i2f (nI (sm_cnG (fun i => decide (sm_stF P S T i = 101)) 40 0 0)))]) hC hK hP (c_X7_manyRows D am P S T L nm Z cp_2 ph 0 n2 fo rd np pw ev od rc wr ) qyX7_manyRows wl_RX7_162 ⟨Nat.le_of_ble_eq_true rfl, Nat.le_of_ble_eq_true rfl⟩ 0 rfl rfl rfl hl.1 rfl (Nat.le_of_ble_eq_true rfl) dX7_movedShare_29 ⟨Nat.le_of_ble_eq_true rfl, Nat.le_of_ble_eq_true rfl⟩ ?_
    refine lv_i2f hx hb dX7_movedShare_32 ?_
    refine lv_fdiv hx hb dX7_movedShare_33 (sm_fq1 (by omega) (by omega) (by omega)) ?_
    exact sm_fretC hC hP hD hS (by first | (have e9 : (sm_cnG S.1 40 0 0) = 0 := (by omega); simp [sm_rs, sm_k1, sm_nz, e9]; done) | (have e9 : ¬ (sm_cnG S.1 40 0 0) = 0 := (by omega); simp [sm_rs, sm_k1, sm_nz, e9]; done))  (by exact ⟨cp_2, by first | rfl | (first | (have e9 : (sm_cnG S.1 40 0 0) = 0 := (by omega); simp [sm_rs, sm_k1, sm_nz, e9]; done) | (have e9 : ¬ (sm_cnG S.1 40 0 0) = 0 := (by omega); simp [sm_rs, sm_k1, sm_nz, e9]; done))⟩) dX7_movedShare_34

set_option maxHeartbeats 1000000 in
set_option maxRecDepth 100000 in
theorem c_X7_meanStamp (sv : Nat) (hsv : sm_alG T 40 0 0 = (nI sv).toInt64) (hsl : sv ≤ 120 * sm_cnG (fun i => sm_kd T i 1) 40 0 0) : sm_MC l yX7_meanStamp cX7_meanStamp 4 (some .double) 1 23 [.ref (am 0)] D (sm_w7 D am P S T L nm Z cp ph th n2 fo rd np pw ev od rc wr) (fun w => w = sm_w7 D am P S T L nm Z cp ph (sm_k1 (sm_nz (sm_cnG (fun i => sm_kd T i 1) 40 0 0))) n2 fo rd np pw ev od rc wr) (some (.double (if sm_nz (sm_cnG (fun i => sm_kd T i 1) 40 0 0) = true then FP.ddiv (FP.i2d (nI sv)) (FP.i2d (nI (sm_cnG (fun i => sm_kd T i 1) 40 0 0))) else FP.dconst0))) := by
  refine sm_met (own := RX7) (by decide) rfl (Nat.le_of_ble_eq_true rfl) ?_
  intro p e s m below meth c ls hC hv hl
  obtain ⟨hx, hb, hml, hr, hown, hlk, hts⟩ := id hC
  obtain ⟨⟨hP, hK⟩, hD, hZ⟩ := hv
  have hS : va_S (sm_ad (sm_w7 D am P S T L nm Z cp ph th n2 fo rd np pw ev od rc wr)) s.heap s.heap [] := va_S.rf
  have hl : lv_has ls 4 [(0, .ref (am 0))] := hl
  have hce : (sm_cnG (fun i => sm_kd T i 1) 40 0 0) ≤ 40 + 0 := sm_cnle _ _ _ _
  refine lv_lconst (v := 0) hx hb dX7_meanStamp_0 (by decide) ?_
  refine lv_lstore_n (lv' := [(1, .long 0), (0, .ref (am 0))]) hx hb dX7_meanStamp_1 rfl hl (by decide) rfl (fun ls hl => ?_)
  refine lv_iconst (v := 0) hx hb dX7_meanStamp_2 (by decide) ?_
  refine lv_istore_n (lv' := [(3, .int 0), (1, .long 0), (0, .ref (am 0))]) hx hb dX7_meanStamp_3 rfl hl (by decide) rfl (fun ls hl => ?_)
  suffices K : ∀ (n : Nat) (i : Nat) (q : Int64) (ls : Array Slot), 40 - i = n → (i ≤ 40) → (sm_alG T (40 - i) i q = sm_alG T 40 0 0) → lv_has ls 4 [(0, .ref (am 0)), (1, .long q), (3, .int (nI i))] → W p l e ({ frames := 1, cells := 0, slots := 0, locals := 23 } : Room) s m ([.ref (am 0)] : List Value).toArray below meth c s.heap [] 0 0 (MQ below (sm_Qc D (sm_w7 D am P S T L nm Z cp ph th n2 fo rd np pw ev od rc wr) (fun w => w = sm_w7 D am P S T L nm Z cp ph (sm_k1 (sm_nz (sm_cnG (fun i => sm_kd T i 1) 40 0 0))) n2 fo rd np pw ev od rc wr) (some (.double (if sm_nz (sm_cnG (fun i => sm_kd T i 1) 40 0 0) = true then FP.ddiv (FP.i2d (nI sv)) (FP.i2d (nI (sm_cnG (fun i => sm_kd T i 1) 40 0 0))) else FP.dconst0)))) ([.ref (am 0)] : List Value).toArray s 0 0 (sm_ad (sm_w7 D am P S T L nm Z cp ph th n2 fo rd np pw ev od rc wr))) (F0 m 4 ls []) from K _ 0 0 ls rfl (by omega) (rfl) (lv_sub hl [2, 1, 0] rfl)
  intro n
  induction n using Nat.strongRecOn with
  | ind n ih =>
    intro i q ls hn hi hR hl
    refine lv_iload_n hx hb dX7_meanStamp_4 rfl (lv_at hl 2 rfl) ?_
    refine lv_bipush (v := 40) hx hb dX7_meanStamp_5 (by decide) ?_
    refine lv_icmp_ge (tgt := 41) hx hb dX7_meanStamp_7 (by decide) (fun c_1 => ?_) (fun c_1 => ?_)
    · have c_1 := sm_Nnl (a := i) (b := 40) (sm_nl c_1) (by omega) (by omega)
      refine lv_aload_n hx hb dX7_meanStamp_41 rfl (lv_at hl 0 rfl) ?_
      refine lv_aload_n hx hb dX7_meanStamp_42 rfl (lv_at hl 0 rfl) ?_
      refine lv_bipush (v := 101) hx hb dX7_meanStamp_43 (by decide) ?_
      refine sm_re (y := sm_hc 1) (by decide) ?_
      refine sm_cVPr (rest := [.ref (am 0)]) hC hK hP (c_X7_manyHeld D am P S T L nm Z cp ph th n2 fo rd np pw ev od rc wr 1 (by decide)) qyX7_manyHeld wl_RX7_166 ⟨Nat.le_of_ble_eq_true rfl, Nat.le_of_ble_eq_true rfl⟩ 0 rfl rfl rfl hl.1 rfl (Nat.le_of_ble_eq_true rfl) dX7_meanStamp_45 ⟨Nat.le_of_ble_eq_true rfl, Nat.le_of_ble_eq_true rfl⟩ ?_
      refine lv_if_le (tgt := 55) hx hb dX7_meanStamp_48 (by decide) (fun c_2 => ?_) (fun c_2 => ?_)
      · have c_2 := sm_Nnl (a := 0) (b := sm_cnG (fun i => sm_kd T i 1) 40 0 0) (sm_nl c_2) (by omega) (by omega)
        refine lv_iconst (v := 0) hx hb dX7_meanStamp_55 (by decide) ?_
        refine sm_cVCr (rest := []) hC hK hP hD hS hZ (c_X7_checked D am P S T L nm Z cp ph th n2 fo rd np pw ev od rc wr false) qyX7_checked wl_RX7_158 ⟨Nat.le_of_ble_eq_true rfl, Nat.le_of_ble_eq_true rfl⟩ 0 rfl rfl rfl hl.1 rfl (Nat.le_of_ble_eq_true rfl) dX7_meanStamp_56 ⟨Nat.le_of_ble_eq_true rfl, Nat.le_of_ble_eq_true rfl⟩ (fun w1 H locs hB hP hD hS => ?_)
        subst hB
        refine sm_re (y := 1) rfl ?_
        refine lv_if_le (tgt := 66) hx hb dX7_meanStamp_59 (by decide) (fun h => absurd h (by decide)) (fun _ => ?_)
        refine lv_dconst0 hx hb dX7_meanStamp_62 ?_
        refine lv_goto (tgt := 76) hx hb dX7_meanStamp_63 (by decide) ?_
        exact sm_dretC hC hP hD hS (by first | (have e9 : (sm_cnG (fun i => sm_kd T i 1) 40 0 0) = 0 := (by omega); simp [sm_rs, sm_k1, sm_nz, e9]; done) | (have e9 : ¬ (sm_cnG (fun i => sm_kd T i 1) 40 0 0) = 0 := (by omega); simp [sm_rs, sm_k1, sm_nz, e9]; done))  (by first | exact rfl | (first | (have e9 : (sm_cnG (fun i => sm_kd T i 1) 40 0 0) = 0 := (by omega); simp [sm_rs, sm_k1, sm_nz, e9]; done) | (have e9 : ¬ (sm_cnG (fun i => sm_kd T i 1) 40 0 0) = 0 := (by omega); simp [sm_rs, sm_k1, sm_nz, e9]; done))) dX7_meanStamp_76
      · have c_2 := sm_Nlt (a := 0) (b := sm_cnG (fun i => sm_kd T i 1) 40 0 0) (sm_nle c_2) (by omega) (by omega)
        refine lv_iconst (v := 1) hx hb dX7_meanStamp_51 (by decide) ?_
        refine lv_goto (tgt := 56) hx hb dX7_meanStamp_52 (by decide) ?_
        refine sm_cVCr (rest := []) hC hK hP hD hS hZ (c_X7_checked D am P S T L nm Z cp ph th n2 fo rd np pw ev od rc wr true) qyX7_checked wl_RX7_158 ⟨Nat.le_of_ble_eq_true rfl, Nat.le_of_ble_eq_true rfl⟩ 0 rfl rfl rfl hl.1 rfl (Nat.le_of_ble_eq_true rfl) dX7_meanStamp_56 ⟨Nat.le_of_ble_eq_true rfl, Nat.le_of_ble_eq_true rfl⟩ (fun w1 H locs hB hP hD hS => ?_)
        subst hB
        refine sm_re (y := 0) rfl ?_
        refine lv_if_le (tgt := 66) hx hb dX7_meanStamp_59 (by decide) (fun _ => ?_) (fun h => absurd h (by decide))
        refine lv_lload_n hx hb dX7_meanStamp_66 rfl (lv_at hl 1 rfl) ?_
        refine lv_l2d hx hb dX7_meanStamp_67 ?_
        have e8 : i = 40 := by omega
        refine sm_reD (y := FP.i2d (nI sv)) (sm_l2d (by subst e8; exact Eq.trans (show q = _ from hR) hsv)) ?_
        refine lv_aload_n hx hb dX7_meanStamp_68 rfl (lv_at hl 0 rfl) ?_
        refine lv_bipush (v := 101) hx hb dX7_meanStamp_69 (by decide) ?_
        refine sm_re (y := sm_hc 1) (by decide) ?_
        refine sm_cVPr (rest := [.double (FP.i2d (nI sv))]) hC hK hP (c_X7_manyHeld D am P S T L nm Z cp ph 0 n2 fo rd np pw ev od rc wr 1 (by decide)) qyX7_manyHeld wl_RX7_166 ⟨Nat.le_of_ble_eq_true rfl, Nat.le_of_ble_eq_true rfl⟩ 0 rfl rfl rfl hl.1 rfl (Nat.le_of_ble_eq_true rfl) dX7_meanStamp_71 ⟨Nat.le_of_ble_eq_true rfl, Nat.le_of_ble_eq_true rfl⟩ ?_
        refine lv_i2d hx hb dX7_meanStamp_74 ?_
        refine lv_ddiv hx hb dX7_meanStamp_75 (sm_dq1 hsl (by omega) (by omega)) ?_
        exact sm_dretC hC hP hD hS (by first | (have e9 : (sm_cnG (fun i => sm_kd T i 1) 40 0 0) = 0 := (by omega); simp [sm_rs, sm_k1, sm_nz, e9]; done) | (have e9 : ¬ (sm_cnG (fun i => sm_kd T i 1) 40 0 0) = 0 := (by omega); simp [sm_rs, sm_k1, sm_nz, e9]; done))  (by first | exact rfl | (first | (have e9 : (sm_cnG (fun i => sm_kd T i 1) 40 0 0) = 0 := (by omega); simp [sm_rs, sm_k1, sm_nz, e9]; done) | (have e9 : ¬ (sm_cnG (fun i => sm_kd T i 1) 40 0 0) = 0 := (by omega); simp [sm_rs, sm_k1, sm_nz, e9]; done))) dX7_meanStamp_76
    · have c_1 := sm_Nlt (a := i) (b := 40) (sm_nle c_1) (by omega) (by omega)
      refine lv_lload_n hx hb dX7_meanStamp_10 rfl (lv_at hl 1 rfl) ?_
      refine lv_aload_n hx hb dX7_meanStamp_11 rfl (lv_at hl 0 rfl) ?_
      refine sm_gt (ci := 7) (C := RX7) (T := TX7) (N := 33) hx hb hts inlX7 hown hK hP 0 rfl rfl 1 (by decide) wf_RX7_13 rfl dX7_meanStamp_12 ?_
      refine lv_iload_n hx hb dX7_meanStamp_15 rfl (lv_at hl 2 rfl) ?_
      refine sm_cld hx hb hK hP 2 rfl i rfl (by omega) (by decide) dX7_meanStamp_16 ?_
      refine lv_bipush (v := 101) hx hb dX7_meanStamp_17 (by decide) ?_
      refine lv_icmp_ne (tgt := 32) hx hb dX7_meanStamp_19 (by decide) (fun c_3 => ?_) (fun c_3 => ?_)
      · have c_3 := sm_hcF1 c_3
        refine lv_lconst (v := 0) hx hb dX7_meanStamp_32 (by decide) ?_
        refine lv_ladd hx hb dX7_meanStamp_33 ?_
        refine sm_reL (y := q) (Int64.add_zero q) ?_
        refine lv_lstore_n (lv' := [(1, .long q), (0, .ref (am 0)), (3, .int (nI i))]) hx hb dX7_meanStamp_34 rfl hl (by decide) rfl (fun ls hl => ?_)
        refine lv_iinc (v := nI (i + 1)) (lv' := [(3, .int (nI (i + 1))), (1, .long q), (0, .ref (am 0))]) hx hb dX7_meanStamp_35 hl (k := 2) rfl (nI_1 i) (by decide) rfl (fun ls hl => ?_)
        refine lv_goto (tgt := 4) hx hb dX7_meanStamp_38 (by decide) ?_
        exact ih _ (by omega) (i + 1) q ls rfl (by omega) (by rw [sm_alS (by omega), if_neg (by rw [c_3]; decide)] at hR; exact hR) (lv_sub hl [2, 1, 0] rfl)
      · have c_3 := sm_hcT1 c_3
        refine lv_aload_n hx hb dX7_meanStamp_22 rfl (lv_at hl 0 rfl) ?_
        refine sm_gt (ci := 7) (C := RX7) (T := TX7) (N := 33) hx hb hts inlX7 hown hK hP 0 rfl rfl 7 (by decide) wf_RX7_32 rfl dX7_meanStamp_23 ?_
        refine lv_iload_n hx hb dX7_meanStamp_26 rfl (lv_at hl 2 rfl) ?_
        refine sm_ild hx hb hK hP 8 rfl i rfl (by omega) (by decide) dX7_meanStamp_27 ?_
        refine lv_i2l hx hb dX7_meanStamp_28 rfl ?_
        refine lv_goto (tgt := 33) hx hb dX7_meanStamp_29 (by decide) ?_
        refine lv_ladd hx hb dX7_meanStamp_33 ?_
        refine lv_lstore_n (lv' := [(1, .long (q + ((T.2.1 i).toInt64))), (0, .ref (am 0)), (3, .int (nI i))]) hx hb dX7_meanStamp_34 rfl hl (by decide) rfl (fun ls hl => ?_)
        refine lv_iinc (v := nI (i + 1)) (lv' := [(3, .int (nI (i + 1))), (1, .long (q + ((T.2.1 i).toInt64))), (0, .ref (am 0))]) hx hb dX7_meanStamp_35 hl (k := 2) rfl (nI_1 i) (by decide) rfl (fun ls hl => ?_)
        refine lv_goto (tgt := 4) hx hb dX7_meanStamp_38 (by decide) ?_
        exact ih _ (by omega) (i + 1) (q + (T.2.1 i).toInt64) ls rfl (by omega) (by rw [sm_alS (by omega), if_pos c_3] at hR; exact hR) (lv_sub hl [2, 1, 0] rfl)

end
