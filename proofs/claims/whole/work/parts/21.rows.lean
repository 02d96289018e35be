/-! Rows, and Steps but turning -/
section
def sm_full6 (P : sm_Sp) : Bool := if P.1 < 6 then false else true
def sm_hold (S : sm_Rw) (k : Nat) (a b : Int32) : Bool := if S.1 k = true then (if S.2.1 k = a then (if S.2.2 k = b then true else false) else false) else false
theorem sm_cnS {f : Nat → Bool} {n i c : Nat} (h : i < n) : sm_cnG f (n - i) i c = sm_cnG f (n - (i + 1)) (i + 1) (if f i = true then c + 1 else c) := by
  obtain ⟨k, hk⟩ : ∃ k, n - i = k + 1 := ⟨n - i - 1, by omega⟩
  rw [hk, show n - (i + 1) = k by omega]
  rfl
variable {l : Launch} (D : sm_G) (ad : Nat → Nat) (P : sm_Sp) (S : sm_Rw) (T : sm_Tg) (L M : sm_Lg) (C : sm_Pt) (cp : sm_Cp) (ph : Int32) (fo ne no rc : Nat) (wr : va_W)
set_option maxHeartbeats 1000000 in
set_option maxRecDepth 100000 in
theorem c_X4_isStep (k x : Int32) : sm_MP l yX4_isStep cX4_isStep 2 (some .boolean) 1 21 [.int k, .int x] D (sm_w6 D ad P S T L M C cp ph fo ne no rc wr) (some (.int (sm_b (sm_isStep k x)))) := by
  refine sm_met (own := RX4) (by decide) rfl (Nat.le_of_ble_eq_true rfl) ?_
  intro p e s m below meth c ls hC hv hl
  obtain ⟨hx, hb, hml, hr, hown, hlk, hts⟩ := id hC
  obtain ⟨hP, hK⟩ := hv
  have hl : lv_has ls 2 [(0, .int k), (1, .int x)] := hl
  refine lv_iload_n hx hb dX4_isStep_0 rfl (lv_at hl 0 rfl) ?_
  refine lv_bipush (v := 112) hx hb dX4_isStep_1 (by decide) ?_
  refine lv_icmp_ne (tgt := 14) hx hb dX4_isStep_3 (by decide) (fun c_1 => ?_) (fun c_1 => ?_)
  · have c_1_ := c_1
    refine lv_iload_n hx hb dX4_isStep_14 rfl (lv_at hl 0 rfl) ?_
    refine lv_bipush (v := 109) hx hb dX4_isStep_15 (by decide) ?_
    refine lv_icmp_ne (tgt := 39) hx hb dX4_isStep_17 (by decide) (fun c_2 => ?_) (fun c_2 => ?_)
    · have c_2_ := c_2
      refine lv_iload_n hx hb dX4_isStep_39 rfl (lv_at hl 0 rfl) ?_
      refine lv_bipush (v := 110) hx hb dX4_isStep_40 (by decide) ?_
      refine lv_icmp_eq (tgt := 57) hx hb dX4_isStep_42 (by decide) (fun c_3 => ?_) (fun c_3 => ?_)
      · have c_3_ := c_3
        refine lv_iconst (v := 1) hx hb dX4_isStep_57 (by decide) ?_
        refine lv_goto (tgt := 62) hx hb dX4_isStep_58 (by decide) ?_
        exact sm_retP hC (by first | rfl | (simp [sm_isStep, sm_b, c_1, c_2, c_3]; done) | (simp [sm_isStep, sm_b] at c_1 c_2 c_3; simp [sm_isStep, sm_b, c_1, c_2, c_3]; done) | (simp_all [sm_isStep, sm_b]; done)) (by decide) dX4_isStep_62
      · have c_3_ := c_3
        refine lv_iload_n hx hb dX4_isStep_45 rfl (lv_at hl 0 rfl) ?_
        refine lv_bipush (v := 120) hx hb dX4_isStep_46 (by decide) ?_
        refine lv_icmp_eq (tgt := 57) hx hb dX4_isStep_48 (by decide) (fun c_4 => ?_) (fun c_4 => ?_)
        · have c_4_ := c_4
          refine lv_iconst (v := 1) hx hb dX4_isStep_57 (by decide) ?_
          refine lv_goto (tgt := 62) hx hb dX4_isStep_58 (by decide) ?_
          exact sm_retP hC (by first | rfl | (simp [sm_isStep, sm_b, c_1, c_2, c_3, c_4]; done) | (simp [sm_isStep, sm_b] at c_1 c_2 c_3 c_4; simp [sm_isStep, sm_b, c_1, c_2, c_3, c_4]; done) | (simp_all [sm_isStep, sm_b]; done)) (by decide) dX4_isStep_62
        · have c_4_ := c_4
          refine lv_iload_n hx hb dX4_isStep_51 rfl (lv_at hl 0 rfl) ?_
          refine lv_bipush (v := 115) hx hb dX4_isStep_52 (by decide) ?_
          refine lv_icmp_ne (tgt := 61) hx hb dX4_isStep_54 (by decide) (fun c_5 => ?_) (fun c_5 => ?_)
          · have c_5_ := c_5
            refine lv_iconst (v := 0) hx hb dX4_isStep_61 (by decide) ?_
            exact sm_retP hC (by first | rfl | (simp [sm_isStep, sm_b, c_1, c_2, c_3, c_4, c_5]; done) | (simp [sm_isStep, sm_b] at c_1 c_2 c_3 c_4 c_5; simp [sm_isStep, sm_b, c_1, c_2, c_3, c_4, c_5]; done) | (simp_all [sm_isStep, sm_b]; done)) (by decide) dX4_isStep_62
          · have c_5_ := c_5
            refine lv_iconst (v := 1) hx hb dX4_isStep_57 (by decide) ?_
            refine lv_goto (tgt := 62) hx hb dX4_isStep_58 (by decide) ?_
            exact sm_retP hC (by first | rfl | (simp [sm_isStep, sm_b, c_1, c_2, c_3, c_4, c_5]; done) | (simp [sm_isStep, sm_b] at c_1 c_2 c_3 c_4 c_5; simp [sm_isStep, sm_b, c_1, c_2, c_3, c_4, c_5]; done) | (simp_all [sm_isStep, sm_b]; done)) (by decide) dX4_isStep_62
    · have c_2_ := c_2
      refine lv_iload_n hx hb dX4_isStep_20 rfl (lv_at hl 1 rfl) ?_
      refine lv_bipush (v := 9) hx hb dX4_isStep_21 (by decide) ?_
      refine sm_cNPr (rest := []) hC hK hP (c_X6_isWithin D ad P S T L M C cp ph fo ne no rc wr x 9) qyX6_isWithin (List.mem_of_getElem? (i := 2) rfl) ⟨Nat.le_of_ble_eq_true rfl, Nat.le_of_ble_eq_true rfl⟩ rfl hl.1 rfl (Nat.le_of_ble_eq_true rfl) dX4_isStep_23 ⟨Nat.le_of_ble_eq_true rfl, Nat.le_of_ble_eq_true rfl⟩ ?_
      refine lv_if_eq (tgt := 37) hx hb dX4_isStep_26 (by decide) (fun c_6 => ?_) (fun c_6 => ?_)
      · have c_6 := sm_b0 c_6
        refine lv_iconst (v := 0) hx hb dX4_isStep_37 (by decide) ?_
        exact sm_retP hC (by first | rfl | (simp [sm_isStep, sm_b, c_1, c_2, c_6]; done) | (simp [sm_isStep, sm_b] at c_1 c_2 c_6; simp [sm_isStep, sm_b, c_1, c_2, c_6]; done) | (simp_all [sm_isStep, sm_b]; done)) (by decide) dX4_isStep_38
      · have c_6 := sm_b1 c_6
        refine lv_iload_n hx hb dX4_isStep_29 rfl (lv_at hl 1 rfl) ?_
        refine lv_if_eq (tgt := 37) hx hb dX4_isStep_30 (by decide) (fun c_7 => ?_) (fun c_7 => ?_)
        · have c_7_ := c_7
          refine lv_iconst (v := 0) hx hb dX4_isStep_37 (by decide) ?_
          exact sm_retP hC (by first | rfl | (simp [sm_isStep, sm_b, c_1, c_2, c_6, c_7]; done) | (simp [sm_isStep, sm_b] at c_1 c_2 c_6 c_7; simp [sm_isStep, sm_b, c_1, c_2, c_6, c_7]; done) | (simp_all [sm_isStep, sm_b]; done)) (by decide) dX4_isStep_38
        · have c_7_ := c_7
          refine lv_iconst (v := 1) hx hb dX4_isStep_33 (by decide) ?_
          refine lv_goto (tgt := 38) hx hb dX4_isStep_34 (by decide) ?_
          exact sm_retP hC (by first | rfl | (simp [sm_isStep, sm_b, c_1, c_2, c_6, c_7]; done) | (simp [sm_isStep, sm_b] at c_1 c_2 c_6 c_7; simp [sm_isStep, sm_b, c_1, c_2, c_6, c_7]; done) | (simp_all [sm_isStep, sm_b]; done)) (by decide) dX4_isStep_38
  · have c_1_ := c_1
    refine lv_iload_n hx hb dX4_isStep_6 rfl (lv_at hl 1 rfl) ?_
    refine lv_sipush (v := 999) hx hb dX4_isStep_7 (by decide) ?_
    refine sm_cNPr (rest := []) hC hK hP (c_X6_isWithin D ad P S T L M C cp ph fo ne no rc wr x 999) qyX6_isWithin (List.mem_of_getElem? (i := 2) rfl) ⟨Nat.le_of_ble_eq_true rfl, Nat.le_of_ble_eq_true rfl⟩ rfl hl.1 rfl (Nat.le_of_ble_eq_true rfl) dX4_isStep_10 ⟨Nat.le_of_ble_eq_true rfl, Nat.le_of_ble_eq_true rfl⟩ ?_
    exact sm_retP hC (by first | rfl | (simp [sm_isStep, sm_b, c_1]; done) | (simp [sm_isStep, sm_b] at c_1; simp [sm_isStep, sm_b, c_1]; done) | (simp_all [sm_isStep, sm_b]; done)) (sm_nb _) dX4_isStep_13

set_option maxHeartbeats 1000000 in
set_option maxRecDepth 100000 in
theorem c_X4_size  : sm_MP l yX4_size cX4_size 1 (some .int) 0 0 [.ref (ad 1)] D (sm_w6 D ad P S T L M C cp ph fo ne no rc wr) (some (.int (nI P.1))) := by
  refine sm_met (own := RX4) (by decide) rfl (Nat.le_of_ble_eq_true rfl) ?_
  intro p e s m below meth c ls hC hv hl
  obtain ⟨hx, hb, hml, hr, hown, hlk, hts⟩ := id hC
  obtain ⟨hP, hK⟩ := hv
  have hl : lv_has ls 1 [(0, .ref (ad 1))] := hl
  refine lv_aload_n hx hb dX4_size_0 rfl (lv_at hl 0 rfl) ?_
  refine sm_gt (ci := 4) (C := RX4) (T := TX4) (N := 3) hx hb hts inlX4 hown hK hP 1 rfl rfl 2 (by decide) wf_RX4_23 rfl dX4_size_1 ?_
  exact sm_retP hC rfl rfl dX4_size_4

set_option maxHeartbeats 1000000 in
set_option maxRecDepth 100000 in
theorem c_X4_isFull (hP6 : P.1 ≤ 6) : sm_MP l yX4_isFull cX4_isFull 1 (some .boolean) 0 0 [.ref (ad 1)] D (sm_w6 D ad P S T L M C cp ph fo ne no rc wr) (some (.int (sm_b (sm_full6 P)))) := by
  refine sm_met (own := RX4) (by decide) rfl (Nat.le_of_ble_eq_true rfl) ?_
  intro p e s m below meth c ls hC hv hl
  obtain ⟨hx, hb, hml, hr, hown, hlk, hts⟩ := id hC
  obtain ⟨hP, hK⟩ := hv
  have hl : lv_has ls 1 [(0, .ref (ad 1))] := hl
  refine lv_aload_n hx hb dX4_isFull_0 rfl (lv_at hl 0 rfl) ?_
  refine sm_gt (ci := 4) (C := RX4) (T := TX4) (N := 3) hx hb hts inlX4 hown hK hP 1 rfl rfl 2 (by decide) wf_RX4_23 rfl dX4_isFull_1 ?_
  refine lv_bipush (v := 6) hx hb dX4_isFull_4 (by decide) ?_
  refine lv_icmp_lt (tgt := 13) hx hb dX4_isFull_6 (by decide) (fun c_1 => ?_) (fun c_1 => ?_)
  · have c_1 := sm_Nlt (a := P.1) (b := 6) (c_1) (by omega) (by omega)
    refine lv_iconst (v := 0) hx hb dX4_isFull_13 (by decide) ?_
    exact sm_retP hC (by first | rfl | (simp [sm_full6, sm_b, c_1]; done) | (simp [sm_full6, sm_b] at c_1; simp [sm_full6, sm_b, c_1]; done) | (simp_all [sm_full6, sm_b]; done)) (by decide) dX4_isFull_14
  · have c_1 := sm_Nnl (a := P.1) (b := 6) (c_1) (by omega) (by omega)
    refine lv_iconst (v := 1) hx hb dX4_isFull_9 (by decide) ?_
    refine lv_goto (tgt := 14) hx hb dX4_isFull_10 (by decide) ?_
    exact sm_retP hC (by first | rfl | (simp [sm_full6, sm_b, c_1]; done) | (simp [sm_full6, sm_b] at c_1; simp [sm_full6, sm_b, c_1]; done) | (simp_all [sm_full6, sm_b]; done)) (by decide) dX4_isFull_14

set_option maxHeartbeats 1000000 in
set_option maxRecDepth 100000 in
theorem c_X4_append (k x : Int32) (hk : vp_nar .char k = k) (hP6 : P.1 < 6) : sm_MC l yX4_append cX4_append 3 none 0 0 [.ref (ad 1), .int k, .int x] D (sm_w6 D ad P S T L M C cp ph fo ne no rc wr) (fun w => w = sm_w6 D ad (P.1 + 1, va_up P.2.1 P.1 k, va_up P.2.2 P.1 x) S T L M C cp ph fo ne no rc wr) none := by
  refine sm_met (own := RX4) (by decide) rfl (Nat.le_of_ble_eq_true rfl) ?_
  intro p e s m below meth c ls hC hv hl
  obtain ⟨hx, hb, hml, hr, hown, hlk, hts⟩ := id hC
  obtain ⟨⟨hP, hK⟩, hD, hZ⟩ := hv
  have hS : va_S (sm_ad (sm_w6 D ad P S T L M C cp ph fo ne no rc wr)) s.heap s.heap [] := va_S.rf
  have hl : lv_has ls 3 [(0, .ref (ad 1)), (1, .int k), (2, .int x)] := hl
  refine lv_aload_n hx hb dX4_append_0 rfl (lv_at hl 0 rfl) ?_
  refine sm_gt (ci := 4) (C := RX4) (T := TX4) (N := 3) hx hb hts inlX4 hown hK hP 1 rfl rfl 2 (by decide) wf_RX4_23 rfl dX4_append_1 ?_
  refine lv_if_lt (tgt := 46) hx hb dX4_append_4 (by decide) (fun h => absurd h (fun z => absurd (sm_Nlt (a := P.1) (b := 0) z (by omega) (by omega)) (Nat.not_lt_zero _))) (fun _ => ?_)
  refine lv_aload_n hx hb dX4_append_7 rfl (lv_at hl 0 rfl) ?_
  refine sm_gt (ci := 4) (C := RX4) (T := TX4) (N := 3) hx hb hts inlX4 hown hK hP 1 rfl rfl 2 (by decide) wf_RX4_23 rfl dX4_append_8 ?_
  refine lv_bipush (v := 6) hx hb dX4_append_11 (by decide) ?_
  refine lv_icmp_ge (tgt := 46) hx hb dX4_append_13 (by decide) (fun h => absurd h (Int32.not_le.mpr (sm_pNlt (a := P.1) (b := 6) hP6 (by omega)))) (fun _ => ?_)
  refine lv_aload_n hx hb dX4_append_16 rfl (lv_at hl 0 rfl) ?_
  refine sm_gt (ci := 4) (C := RX4) (T := TX4) (N := 3) hx hb hts inlX4 hown hK hP 1 rfl rfl 0 (by decide) wf_RX4_9 rfl dX4_append_17 ?_
  refine lv_aload_n hx hb dX4_append_20 rfl (lv_at hl 0 rfl) ?_
  refine sm_gt (ci := 4) (C := RX4) (T := TX4) (N := 3) hx hb hts inlX4 hown hK hP 1 rfl rfl 2 (by decide) wf_RX4_23 rfl dX4_append_21 ?_
  refine lv_iload_n hx hb dX4_append_24 rfl (lv_at hl 1 rfl) ?_
  refine sm_cst hx hb hK hP hD hS 2 rfl P.1 rfl (by omega) (by decide) hk dX4_append_25 (fun H locs hP hD hS => ?_)
  have hP : va_P D.1 sm_cl (sm_w6 D ad (P.1, va_up P.2.1 P.1 k, P.2.2) S T L M C cp ph fo ne no rc wr) H := hP
  have hD : va_D (sm_ad (sm_w6 D ad P S T L M C cp ph fo ne no rc wr)) (sm_w6 D ad (P.1, va_up P.2.1 P.1 k, P.2.2) S T L M C cp ph fo ne no rc wr) := hD
  refine lv_aload_n hx hb dX4_append_26 rfl (lv_at hl 0 rfl) ?_
  refine sm_gt (ci := 4) (C := RX4) (T := TX4) (N := 3) hx hb hts inlX4 hown hK hP 1 rfl rfl 1 (by decide) wf_RX4_15 rfl dX4_append_27 ?_
  refine lv_aload_n hx hb dX4_append_30 rfl (lv_at hl 0 rfl) ?_
  refine sm_gt (ci := 4) (C := RX4) (T := TX4) (N := 3) hx hb hts inlX4 hown hK hP 1 rfl rfl 2 (by decide) wf_RX4_23 rfl dX4_append_31 ?_
  refine lv_iload_n hx hb dX4_append_34 rfl (lv_at hl 2 rfl) ?_
  refine sm_ist hx hb hK hP hD hS 3 rfl P.1 rfl (by omega) (by decide) dX4_append_35 (fun H locs hP hD hS => ?_)
  have hP : va_P D.1 sm_cl (sm_w6 D ad (P.1, va_up P.2.1 P.1 k, va_up P.2.2 P.1 x) S T L M C cp ph fo ne no rc wr) H := hP
  have hD : va_D (sm_ad (sm_w6 D ad P S T L M C cp ph fo ne no rc wr)) (sm_w6 D ad (P.1, va_up P.2.1 P.1 k, va_up P.2.2 P.1 x) S T L M C cp ph fo ne no rc wr) := hD
  refine lv_aload_n hx hb dX4_append_36 rfl (lv_at hl 0 rfl) ?_
  refine lv_dup hx hb dX4_append_37 rfl ?_
  refine sm_gt (ci := 4) (C := RX4) (T := TX4) (N := 3) hx hb hts inlX4 hown hK hP 1 rfl rfl 2 (by decide) wf_RX4_23 rfl dX4_append_38 ?_
  refine lv_iconst (v := 1) hx hb dX4_append_41 (by decide) ?_
  refine lv_iadd hx hb dX4_append_42 ?_
  refine sm_re (y := nI (P.1 + 1)) (nI_1 P.1) ?_
  refine sm_pt (ci := 4) (C := RX4) (T := TX4) (N := 3) hx hb hts inlX4 tyX4 tyX4_ok nmX4 hown hK hP hD hS 1 rfl rfl 2 (by decide) wf_RX4_23 rfl rfl rfl (Nat.le_of_ble_eq_true rfl) dX4_append_43 (fun H locs hP hD hS => ?_)
  have hP : va_P D.1 sm_cl (sm_w6 D ad (P.1 + 1, va_up P.2.1 P.1 k, va_up P.2.2 P.1 x) S T L M C cp ph fo ne no rc wr) H := hP
  have hD : va_D (sm_ad (sm_w6 D ad P S T L M C cp ph fo ne no rc wr)) (sm_w6 D ad (P.1 + 1, va_up P.2.1 P.1 k, va_up P.2.2 P.1 x) S T L M C cp ph fo ne no rc wr) := hD
  exact sm_vretC hC hP hD hS rfl  (by exact rfl) dX4_append_46

set_option maxHeartbeats 1000000 in
set_option maxRecDepth 100000 in
theorem c_X3_has_s (k : Nat) (hk : k < 40) : sm_MP l yX3_has cX3_has 2 (some .boolean) 1 21 [.ref (ad 4), .int (nI k)] D (sm_w6 D ad P S T L M C cp ph fo ne no rc wr) (some (.int (sm_b (S.1 k)))) := by
  refine sm_met (own := RX3) (by decide) rfl (Nat.le_of_ble_eq_true rfl) ?_
  intro p e s m below meth c ls hC hv hl
  obtain ⟨hx, hb, hml, hr, hown, hlk, hts⟩ := id hC
  obtain ⟨hP, hK⟩ := hv
  have hl : lv_has ls 2 [(0, .ref (ad 4)), (1, .int (nI k))] := hl
  refine lv_iload_n hx hb dX3_has_0 rfl (lv_at hl 1 rfl) ?_
  refine sm_cNPr (rest := []) hC hK hP (c_X6_isKey D ad P S T L M C cp ph fo ne no rc wr k (by omega)) qyX6_isKey (List.mem_of_getElem? (i := 0) rfl) ⟨Nat.le_of_ble_eq_true rfl, Nat.le_of_ble_eq_true rfl⟩ rfl hl.1 rfl (Nat.le_of_ble_eq_true rfl) dX3_has_1 ⟨Nat.le_of_ble_eq_true rfl, Nat.le_of_ble_eq_true rfl⟩ ?_
  refine lv_if_eq (tgt := 20) hx hb dX3_has_4 (by decide) (fun h => absurd h (by decide)) (fun _ => ?_)
  refine lv_aload_n hx hb dX3_has_7 rfl (lv_at hl 0 rfl) ?_
  refine sm_gt (ci := 3) (C := RX3) (T := TX3) (N := 3) hx hb hts inlX3 hown hK hP 4 rfl rfl 0 (by decide) wf_RX3_9 rfl dX3_has_8 ?_
  refine lv_iload_n hx hb dX3_has_11 rfl (lv_at hl 1 rfl) ?_
  refine sm_zld hx hb hK hP 5 rfl k rfl (by omega) (by decide) dX3_has_12 ?_
  refine lv_if_eq (tgt := 20) hx hb dX3_has_13 (by decide) (fun c_1 => ?_) (fun c_1 => ?_)
  · have c_1 := sm_b0 c_1
    refine lv_iconst (v := 0) hx hb dX3_has_20 (by decide) ?_
    exact sm_retP hC (by first | rfl | (simp [sm_b, c_1]; done) | (simp [sm_b] at c_1; simp [sm_b, c_1]; done) | (simp_all [sm_b]; done)) (by decide) dX3_has_21
  · have c_1 := sm_b1 c_1
    refine lv_iconst (v := 1) hx hb dX3_has_16 (by decide) ?_
    refine lv_goto (tgt := 21) hx hb dX3_has_17 (by decide) ?_
    exact sm_retP hC (by first | rfl | (simp [sm_b, c_1]; done) | (simp [sm_b] at c_1; simp [sm_b, c_1]; done) | (simp_all [sm_b]; done)) (by decide) dX3_has_21

set_option maxHeartbeats 1000000 in
set_option maxRecDepth 100000 in
theorem c_X3_number_s (k : Nat) (hk : k < 40) (z : Bool) : sm_MP l yX3_number cX3_number 3 (some .int) 1 21 [.ref (ad 4), .int (nI k), .int (sm_b z)] D (sm_w6 D ad P S T L M C cp ph fo ne no rc wr) (some (.int (sm_pk z (S.2.1 k, S.2.2 k)))) := by
  refine sm_met (own := RX3) (by decide) rfl (Nat.le_of_ble_eq_true rfl) ?_
  intro p e s m below meth c ls hC hv hl
  obtain ⟨hx, hb, hml, hr, hown, hlk, hts⟩ := id hC
  obtain ⟨hP, hK⟩ := hv
  have hl : lv_has ls 3 [(0, .ref (ad 4)), (1, .int (nI k)), (2, .int (sm_b z))] := hl
  refine lv_iload_n hx hb dX3_number_0 rfl (lv_at hl 1 rfl) ?_
  refine sm_cNPr (rest := []) hC hK hP (c_X6_isKey D ad P S T L M C cp ph fo ne no rc wr k (by omega)) qyX6_isKey (List.mem_of_getElem? (i := 0) rfl) ⟨Nat.le_of_ble_eq_true rfl, Nat.le_of_ble_eq_true rfl⟩ rfl hl.1 rfl (Nat.le_of_ble_eq_true rfl) dX3_number_1 ⟨Nat.le_of_ble_eq_true rfl, Nat.le_of_ble_eq_true rfl⟩ ?_
  refine lv_if_ne (tgt := 9) hx hb dX3_number_4 (by decide) (fun _ => ?_) (fun h => absurd h (by decide))
  refine lv_iload_n hx hb dX3_number_9 rfl (lv_at hl 2 rfl) ?_
  refine lv_if_eq (tgt := 22) hx hb dX3_number_10 (by decide) (fun c_1 => ?_) (fun c_1 => ?_)
  · have c_1 := sm_b0 c_1
    refine lv_aload_n hx hb dX3_number_22 rfl (lv_at hl 0 rfl) ?_
    refine sm_gt (ci := 3) (C := RX3) (T := TX3) (N := 3) hx hb hts inlX3 hown hK hP 4 rfl rfl 1 (by decide) wf_RX3_15 rfl dX3_number_23 ?_
    refine lv_iload_n hx hb dX3_number_26 rfl (lv_at hl 1 rfl) ?_
    refine sm_ild hx hb hK hP 6 rfl k rfl (by omega) (by decide) dX3_number_27 ?_
    exact sm_retP hC (by first | rfl | (simp [sm_pk, c_1]; done) | (simp [sm_pk] at c_1; simp [sm_pk, c_1]; done) | (simp_all [sm_pk]; done)) rfl dX3_number_28
  · have c_1 := sm_b1 c_1
    refine lv_aload_n hx hb dX3_number_13 rfl (lv_at hl 0 rfl) ?_
    refine sm_gt (ci := 3) (C := RX3) (T := TX3) (N := 3) hx hb hts inlX3 hown hK hP 4 rfl rfl 2 (by decide) wf_RX3_19 rfl dX3_number_14 ?_
    refine lv_iload_n hx hb dX3_number_17 rfl (lv_at hl 1 rfl) ?_
    refine sm_ild hx hb hK hP 7 rfl k rfl (by omega) (by decide) dX3_number_18 ?_
    refine lv_goto (tgt := 28) hx hb dX3_number_19 (by decide) ?_
    exact sm_retP hC (by first | rfl | (simp [sm_pk, c_1]; done) | (simp [sm_pk] at c_1; simp [sm_pk, c_1]; done) | (simp_all [sm_pk]; done)) rfl dX3_number_28

set_option maxHeartbeats 1000000 in
set_option maxRecDepth 100000 in
theorem c_X3_holds_s (k : Nat) (hk : k < 40) (a b : Int32) : sm_MP l yX3_holds cX3_holds 4 (some .boolean) 2 43 [.ref (ad 4), .int (nI k), .int a, .int b] D (sm_w6 D ad P S T L M C cp ph fo ne no rc wr) (some (.int (sm_b (sm_hold S k a b)))) := by
  refine sm_met (own := RX3) (by decide) rfl (Nat.le_of_ble_eq_true rfl) ?_
  intro p e s m below meth c ls hC hv hl
  obtain ⟨hx, hb, hml, hr, hown, hlk, hts⟩ := id hC
  obtain ⟨hP, hK⟩ := hv
  have hl : lv_has ls 4 [(0, .ref (ad 4)), (1, .int (nI k)), (2, .int a), (3, .int b)] := hl
  refine lv_aload_n hx hb dX3_holds_0 rfl (lv_at hl 0 rfl) ?_
  refine lv_iload_n hx hb dX3_holds_1 rfl (lv_at hl 1 rfl) ?_
  refine sm_cVPr (rest := []) hC hK hP (c_X3_has_s D ad P S T L M C cp ph fo ne no rc wr k (by omega)) qyX3_has wl_RX3_26 ⟨Nat.le_of_ble_eq_true rfl, Nat.le_of_ble_eq_true rfl⟩ 4 rfl rfl rfl hl.1 rfl (Nat.le_of_ble_eq_true rfl) dX3_holds_2 ⟨Nat.le_of_ble_eq_true rfl, Nat.le_of_ble_eq_true rfl⟩ ?_
  refine lv_if_eq (tgt := 32) hx hb dX3_holds_5 (by decide) (fun c_1 => ?_) (fun c_1 => ?_)
  · have c_1 := sm_b0 c_1
    refine lv_iconst (v := 0) hx hb dX3_holds_32 (by decide) ?_
    exact sm_retP hC (by first | rfl | (simp [sm_hold, sm_b, c_1]; done) | (simp [sm_hold, sm_b] at c_1; simp [sm_hold, sm_b, c_1]; done) | (simp_all [sm_hold, sm_b]; done)) (by decide) dX3_holds_33
  · have c_1 := sm_b1 c_1
    refine lv_aload_n hx hb dX3_holds_8 rfl (lv_at hl 0 rfl) ?_
    refine lv_iload_n hx hb dX3_holds_9 rfl (lv_at hl 1 rfl) ?_
    refine lv_iconst (v := 0) hx hb dX3_holds_10 (by decide) ?_
    refine sm_cVPr (rest := []) hC hK hP (c_X3_number_s D ad P S T L M C cp ph fo ne no rc wr k (by omega) false) qyX3_number wl_RX3_29 ⟨Nat.le_of_ble_eq_true rfl, Nat.le_of_ble_eq_true rfl⟩ 4 rfl rfl rfl hl.1 rfl (Nat.le_of_ble_eq_true rfl) dX3_holds_11 ⟨Nat.le_of_ble_eq_true rfl, Nat.le_of_ble_eq_true rfl⟩ ?_
    refine sm_re (y := S.2.1 k) rfl ?_
    refine lv_iload_n hx hb dX3_holds_14 rfl (lv_at hl 2 rfl) ?_
    refine lv_icmp_ne (tgt := 32) hx hb dX3_holds_15 (by decide) (fun c_2 => ?_) (fun c_2 => ?_)
    · have c_2_ := c_2
      refine lv_iconst (v := 0) hx hb dX3_holds_32 (by decide) ?_
      exact sm_retP hC (by first | rfl | (simp [sm_hold, sm_b, c_1, c_2]; done) | (simp [sm_hold, sm_b] at c_1 c_2; simp [sm_hold, sm_b, c_1, c_2]; done) | (simp_all [sm_hold, sm_b]; done)) (by decide) dX3_holds_33
    · have c_2_ := c_2
      refine lv_aload_n hx hb dX3_holds_18 rfl (lv_at hl 0 rfl) ?_
      refine lv_iload_n hx hb dX3_holds_19 rfl (lv_at hl 1 rfl) ?_
      refine lv_iconst (v := 1) hx hb dX3_holds_20 (by decide) ?_
      refine sm_cVPr (rest := []) hC hK hP (c_X3_number_s D ad P S T L M C cp ph fo ne no rc wr k (by omega) true) qyX3_number wl_RX3_29 ⟨Nat.le_of_ble_eq_true rfl, Nat.le_of_ble_eq_true rfl⟩ 4 rfl rfl rfl hl.1 rfl (Nat.le_of_ble_eq_true rfl) dX3_holds_21 ⟨Nat.le_of_ble_eq_true rfl, Nat.le_of_ble_eq_true rfl⟩ ?_
      refine sm_re (y := S.2.2 k) rfl ?_
      refine lv_iload_n hx hb dX3_holds_24 rfl (lv_at hl 3 rfl) ?_
      refine lv_icmp_ne (tgt := 32) hx hb dX3_holds_25 (by decide) (fun c_3 => ?_) (fun c_3 => ?_)
      · have c_3_ := c_3
        refine lv_iconst (v := 0) hx hb dX3_holds_32 (by decide) ?_
        exact sm_retP hC (by first | rfl | (simp [sm_hold, sm_b, c_1, c_2, c_3]; done) | (simp [sm_hold, sm_b] at c_1 c_2 c_3; simp [sm_hold, sm_b, c_1, c_2, c_3]; done) | (simp_all [sm_hold, sm_b]; done)) (by decide) dX3_holds_33
      · have c_3_ := c_3
        refine lv_iconst (v := 1) hx hb dX3_holds_28 (by decide) ?_
        refine lv_goto (tgt := 33) hx hb dX3_holds_29 (by decide) ?_
        exact sm_retP hC (by first | rfl | (simp [sm_hold, sm_b, c_1, c_2, c_3]; done) | (simp [sm_hold, sm_b] at c_1 c_2 c_3; simp [sm_hold, sm_b, c_1, c_2, c_3]; done) | (simp_all [sm_hold, sm_b]; done)) (by decide) dX3_holds_33

set_option maxHeartbeats 1000000 in
set_option maxRecDepth 100000 in
theorem c_X3_put_s (k : Nat) (hk : k < 40) (a b : Int32) : sm_MC l yX3_put cX3_put 4 none 1 21 [.ref (ad 4), .int (nI k), .int a, .int b] D (sm_w6 D ad P S T L M C cp ph fo ne no rc wr) (fun w => w = sm_w6 D ad P (sm_putS S k a b) T L M C cp ph fo ne no rc wr) none := by
  refine sm_met (own := RX3) (by decide) rfl (Nat.le_of_ble_eq_true rfl) ?_
  intro p e s m below meth c ls hC hv hl
  obtain ⟨hx, hb, hml, hr, hown, hlk, hts⟩ := id hC
  obtain ⟨⟨hP, hK⟩, hD, hZ⟩ := hv
  have hS : va_S (sm_ad (sm_w6 D ad P S T L M C cp ph fo ne no rc wr)) s.heap s.heap [] := va_S.rf
  have hl : lv_has ls 4 [(0, .ref (ad 4)), (1, .int (nI k)), (2, .int a), (3, .int b)] := hl
  refine lv_iload_n hx hb dX3_put_0 rfl (lv_at hl 1 rfl) ?_
  refine sm_cNPr (rest := []) hC hK hP (c_X6_isKey D ad P S T L M C cp ph fo ne no rc wr k (by omega)) qyX6_isKey (List.mem_of_getElem? (i := 0) rfl) ⟨Nat.le_of_ble_eq_true rfl, Nat.le_of_ble_eq_true rfl⟩ rfl hl.1 rfl (Nat.le_of_ble_eq_true rfl) dX3_put_1 ⟨Nat.le_of_ble_eq_true rfl, Nat.le_of_ble_eq_true rfl⟩ ?_
  refine lv_if_eq (tgt := 28) hx hb dX3_put_4 (by decide) (fun h => absurd h (by decide)) (fun _ => ?_)
  refine lv_aload_n hx hb dX3_put_7 rfl (lv_at hl 0 rfl) ?_
  refine sm_gt (ci := 3) (C := RX3) (T := TX3) (N := 3) hx hb hts inlX3 hown hK hP 4 rfl rfl 0 (by decide) wf_RX3_9 rfl dX3_put_8 ?_
  refine lv_iload_n hx hb dX3_put_11 rfl (lv_at hl 1 rfl) ?_
  refine lv_iconst (v := 1) hx hb dX3_put_12 (by decide) ?_
  refine sm_zst hx hb hK hP hD hS 5 rfl true rfl k rfl (by omega) (by decide) dX3_put_13 (fun H locs hP hD hS => ?_)
  have hP : va_P D.1 sm_cl (sm_w6 D ad P (va_up S.1 k true, S.2) T L M C cp ph fo ne no rc wr) H := hP
  have hD : va_D (sm_ad (sm_w6 D ad P S T L M C cp ph fo ne no rc wr)) (sm_w6 D ad P (va_up S.1 k true, S.2) T L M C cp ph fo ne no rc wr) := hD
  refine lv_aload_n hx hb dX3_put_14 rfl (lv_at hl 0 rfl) ?_
  refine sm_gt (ci := 3) (C := RX3) (T := TX3) (N := 3) hx hb hts inlX3 hown hK hP 4 rfl rfl 1 (by decide) wf_RX3_15 rfl dX3_put_15 ?_
  refine lv_iload_n hx hb dX3_put_18 rfl (lv_at hl 1 rfl) ?_
  refine lv_iload_n hx hb dX3_put_19 rfl (lv_at hl 2 rfl) ?_
  refine sm_ist hx hb hK hP hD hS 6 rfl k rfl (by omega) (by decide) dX3_put_20 (fun H locs hP hD hS => ?_)
  have hP : va_P D.1 sm_cl (sm_w6 D ad P (va_up S.1 k true, va_up S.2.1 k a, S.2.2) T L M C cp ph fo ne no rc wr) H := hP
  have hD : va_D (sm_ad (sm_w6 D ad P S T L M C cp ph fo ne no rc wr)) (sm_w6 D ad P (va_up S.1 k true, va_up S.2.1 k a, S.2.2) T L M C cp ph fo ne no rc wr) := hD
  refine lv_aload_n hx hb dX3_put_21 rfl (lv_at hl 0 rfl) ?_
  refine sm_gt (ci := 3) (C := RX3) (T := TX3) (N := 3) hx hb hts inlX3 hown hK hP 4 rfl rfl 2 (by decide) wf_RX3_19 rfl dX3_put_22 ?_
  refine lv_iload_n hx hb dX3_put_25 rfl (lv_at hl 1 rfl) ?_
  refine lv_iload_n hx hb dX3_put_26 rfl (lv_at hl 3 rfl) ?_
  refine sm_ist hx hb hK hP hD hS 7 rfl k rfl (by omega) (by decide) dX3_put_27 (fun H locs hP hD hS => ?_)
  have hP : va_P D.1 sm_cl (sm_w6 D ad P (va_up S.1 k true, va_up S.2.1 k a, va_up S.2.2 k b) T L M C cp ph fo ne no rc wr) H := hP
  have hD : va_D (sm_ad (sm_w6 D ad P S T L M C cp ph fo ne no rc wr)) (sm_w6 D ad P (va_up S.1 k true, va_up S.2.1 k a, va_up S.2.2 k b) T L M C cp ph fo ne no rc wr) := hD
  exact sm_vretC hC hP hD hS rfl  (by exact rfl) dX3_put_28

set_option maxHeartbeats 1000000 in
set_option maxRecDepth 100000 in
theorem c_X3_remove_s (k : Nat) (hk : k < 40) : sm_MC l yX3_remove cX3_remove 2 none 1 21 [.ref (ad 4), .int (nI k)] D (sm_w6 D ad P S T L M C cp ph fo ne no rc wr) (fun w => w = sm_w6 D ad P (sm_rmS S k) T L M C cp ph fo ne no rc wr) none := by
  refine sm_met (own := RX3) (by decide) rfl (Nat.le_of_ble_eq_true rfl) ?_
  intro p e s m below meth c ls hC hv hl
  obtain ⟨hx, hb, hml, hr, hown, hlk, hts⟩ := id hC
  obtain ⟨⟨hP, hK⟩, hD, hZ⟩ := hv
  have hS : va_S (sm_ad (sm_w6 D ad P S T L M C cp ph fo ne no rc wr)) s.heap s.heap [] := va_S.rf
  have hl : lv_has ls 2 [(0, .ref (ad 4)), (1, .int (nI k))] := hl
  refine lv_iload_n hx hb dX3_remove_0 rfl (lv_at hl 1 rfl) ?_
  refine sm_cNPr (rest := []) hC hK hP (c_X6_isKey D ad P S T L M C cp ph fo ne no rc wr k (by omega)) qyX6_isKey (List.mem_of_getElem? (i := 0) rfl) ⟨Nat.le_of_ble_eq_true rfl, Nat.le_of_ble_eq_true rfl⟩ rfl hl.1 rfl (Nat.le_of_ble_eq_true rfl) dX3_remove_1 ⟨Nat.le_of_ble_eq_true rfl, Nat.le_of_ble_eq_true rfl⟩ ?_
  refine lv_if_eq (tgt := 14) hx hb dX3_remove_4 (by decide) (fun h => absurd h (by decide)) (fun _ => ?_)
  refine lv_aload_n hx hb dX3_remove_7 rfl (lv_at hl 0 rfl) ?_
  refine sm_gt (ci := 3) (C := RX3) (T := TX3) (N := 3) hx hb hts inlX3 hown hK hP 4 rfl rfl 0 (by decide) wf_RX3_9 rfl dX3_remove_8 ?_
  refine lv_iload_n hx hb dX3_remove_11 rfl (lv_at hl 1 rfl) ?_
  refine lv_iconst (v := 0) hx hb dX3_remove_12 (by decide) ?_
  refine sm_zst hx hb hK hP hD hS 5 rfl false rfl k rfl (by omega) (by decide) dX3_remove_13 (fun H locs hP hD hS => ?_)
  have hP : va_P D.1 sm_cl (sm_w6 D ad P (va_up S.1 k false, S.2) T L M C cp ph fo ne no rc wr) H := hP
  have hD : va_D (sm_ad (sm_w6 D ad P S T L M C cp ph fo ne no rc wr)) (sm_w6 D ad P (va_up S.1 k false, S.2) T L M C cp ph fo ne no rc wr) := hD
  exact sm_vretC hC hP hD hS rfl  (by exact rfl) dX3_remove_14

set_option maxHeartbeats 1000000 in
set_option maxRecDepth 100000 in
theorem c_X3_count_s  : sm_MP l yX3_count cX3_count 3 (some .int) 0 0 [.ref (ad 4)] D (sm_w6 D ad P S T L M C cp ph fo ne no rc wr) (some (.int (nI (sm_cnG S.1 40 0 0)))) := by
  refine sm_met (own := RX3) (by decide) rfl (Nat.le_of_ble_eq_true rfl) ?_
  intro p e s m below meth c ls hC hv hl
  obtain ⟨hx, hb, hml, hr, hown, hlk, hts⟩ := id hC
  obtain ⟨hP, hK⟩ := hv
  have hl : lv_has ls 3 [(0, .ref (ad 4))] := hl
  refine lv_iconst (v := 0) hx hb dX3_count_0 (by decide) ?_
  refine lv_istore_n (lv' := [(1, .int 0), (0, .ref (ad 4))]) hx hb dX3_count_1 rfl hl (by decide) rfl (fun ls hl => ?_)
  refine lv_iconst (v := 0) hx hb dX3_count_2 (by decide) ?_
  refine lv_istore_n (lv' := [(2, .int 0), (1, .int 0), (0, .ref (ad 4))]) hx hb dX3_count_3 rfl hl (by decide) rfl (fun ls hl => ?_)
  suffices K : ∀ (n : Nat) (i : Nat) (q : Nat) (ls : Array Slot), 40 - i = n → (i ≤ 40) → (sm_cnG S.1 (40 - i) i q = sm_cnG S.1 40 0 0) → lv_has ls 3 [(0, .ref (ad 4)), (1, .int (nI q)), (2, .int (nI i))] → W p l e ({ frames := 0, cells := 0, slots := 0, locals := 0 } : Room) s m ([.ref (ad 4)] : List Value).toArray below meth c s.heap [] 0 0 (MQ below (sm_Qp (some (.int (nI (sm_cnG S.1 40 0 0))))) ([.ref (ad 4)] : List Value).toArray s 0 0 (fun _ => False)) (F0 m 4 ls []) from K _ 0 0 ls rfl (by omega) (rfl) (lv_sub hl [2, 1, 0] rfl)
  intro n
  induction n using Nat.strongRecOn with
  | ind n ih =>
    intro i q ls hn hi hR hl
    refine lv_iload_n hx hb dX3_count_4 rfl (lv_at hl 2 rfl) ?_
    refine lv_bipush (v := 40) hx hb dX3_count_5 (by decide) ?_
    refine lv_icmp_ge (tgt := 28) hx hb dX3_count_7 (by decide) (fun c_1 => ?_) (fun c_1 => ?_)
    · have c_1 := sm_Nnl (a := i) (b := 40) (sm_nl c_1) (by omega) (by omega)
      refine lv_iload_n hx hb dX3_count_28 rfl (lv_at hl 1 rfl) ?_
      exact sm_retP hC (by have e : i = 40 := (by omega); subst e; rw [← hR]; rfl) rfl dX3_count_29
    · have c_1 := sm_Nlt (a := i) (b := 40) (sm_nle c_1) (by omega) (by omega)
      refine lv_aload_n hx hb dX3_count_10 rfl (lv_at hl 0 rfl) ?_
      refine sm_gt (ci := 3) (C := RX3) (T := TX3) (N := 3) hx hb hts inlX3 hown hK hP 4 rfl rfl 0 (by decide) wf_RX3_9 rfl dX3_count_11 ?_
      refine lv_iload_n hx hb dX3_count_14 rfl (lv_at hl 2 rfl) ?_
      refine sm_zld hx hb hK hP 5 rfl i rfl (by omega) (by decide) dX3_count_15 ?_
      refine lv_if_eq (tgt := 22) hx hb dX3_count_16 (by decide) (fun c_2 => ?_) (fun c_2 => ?_)
      · have c_2 := sm_b0 c_2
        refine lv_iinc (v := nI (i + 1)) (lv' := [(2, .int (nI (i + 1))), (0, .ref (ad 4)), (1, .int (nI q))]) hx hb dX3_count_22 hl (k := 2) rfl (nI_1 i) (by decide) rfl (fun ls hl => ?_)
        refine lv_goto (tgt := 4) hx hb dX3_count_25 (by decide) ?_
        exact ih _ (by omega) (i + 1) q ls rfl (by omega) (by rw [sm_cnS (by omega), if_neg (by rw [c_2]; decide)] at hR; exact hR) (lv_sub hl [1, 2, 0] rfl)
      · have c_2 := sm_b1 c_2
        refine lv_iinc (v := nI (q + 1)) (lv' := [(1, .int (nI (q + 1))), (0, .ref (ad 4)), (2, .int (nI i))]) hx hb dX3_count_19 hl (k := 1) rfl (nI_1 q) (by decide) rfl (fun ls hl => ?_)
        refine lv_iinc (v := nI (i + 1)) (lv' := [(2, .int (nI (i + 1))), (1, .int (nI (q + 1))), (0, .ref (ad 4))]) hx hb dX3_count_22 hl (k := 2) rfl (nI_1 i) (by decide) rfl (fun ls hl => ?_)
        refine lv_goto (tgt := 4) hx hb dX3_count_25 (by decide) ?_
        exact ih _ (by omega) (i + 1) (q + 1) ls rfl (by omega) (by rw [sm_cnS (by omega), if_pos c_2] at hR; exact hR) (lv_sub hl [2, 1, 0] rfl)

set_option maxHeartbeats 1000000 in
set_option maxRecDepth 100000 in
theorem c_X3_has_c (k : Nat) (hk : k < 40) : sm_MP l yX3_has cX3_has 2 (some .boolean) 1 21 [.ref (ad 28), .int (nI k)] D (sm_w6 D ad P S T L M C cp ph fo ne no rc wr) (some (.int (sm_b (C.1.1 k)))) := by
  refine sm_met (own := RX3) (by decide) rfl (Nat.le_of_ble_eq_true rfl) ?_
  intro p e s m below meth c ls hC hv hl
  obtain ⟨hx, hb, hml, hr, hown, hlk, hts⟩ := id hC
  obtain ⟨hP, hK⟩ := hv
  have hl : lv_has ls 2 [(0, .ref (ad 28)), (1, .int (nI k))] := hl
  refine lv_iload_n hx hb dX3_has_0 rfl (lv_at hl 1 rfl) ?_
  refine sm_cNPr (rest := []) hC hK hP (c_X6_isKey D ad P S T L M C cp ph fo ne no rc wr k (by omega)) qyX6_isKey (List.mem_of_getElem? (i := 0) rfl) ⟨Nat.le_of_ble_eq_true rfl, Nat.le_of_ble_eq_true rfl⟩ rfl hl.1 rfl (Nat.le_of_ble_eq_true rfl) dX3_has_1 ⟨Nat.le_of_ble_eq_true rfl, Nat.le_of_ble_eq_true rfl⟩ ?_
  refine lv_if_eq (tgt := 20) hx hb dX3_has_4 (by decide) (fun h => absurd h (by decide)) (fun _ => ?_)
  refine lv_aload_n hx hb dX3_has_7 rfl (lv_at hl 0 rfl) ?_
  refine sm_gt (ci := 3) (C := RX3) (T := TX3) (N := 3) hx hb hts inlX3 hown hK hP 28 rfl rfl 0 (by decide) wf_RX3_9 rfl dX3_has_8 ?_
  refine lv_iload_n hx hb dX3_has_11 rfl (lv_at hl 1 rfl) ?_
  refine sm_zld hx hb hK hP 29 rfl k rfl (by omega) (by decide) dX3_has_12 ?_
  refine lv_if_eq (tgt := 20) hx hb dX3_has_13 (by decide) (fun c_1 => ?_) (fun c_1 => ?_)
  · have c_1 := sm_b0 c_1
    refine lv_iconst (v := 0) hx hb dX3_has_20 (by decide) ?_
    exact sm_retP hC (by first | rfl | (simp [sm_b, c_1]; done) | (simp [sm_b] at c_1; simp [sm_b, c_1]; done) | (simp_all [sm_b]; done)) (by decide) dX3_has_21
  · have c_1 := sm_b1 c_1
    refine lv_iconst (v := 1) hx hb dX3_has_16 (by decide) ?_
    refine lv_goto (tgt := 21) hx hb dX3_has_17 (by decide) ?_
    exact sm_retP hC (by first | rfl | (simp [sm_b, c_1]; done) | (simp [sm_b] at c_1; simp [sm_b, c_1]; done) | (simp_all [sm_b]; done)) (by decide) dX3_has_21

set_option maxHeartbeats 1000000 in
set_option maxRecDepth 100000 in
theorem c_X3_number_c (k : Nat) (hk : k < 40) (z : Bool) : sm_MP l yX3_number cX3_number 3 (some .int) 1 21 [.ref (ad 28), .int (nI k), .int (sm_b z)] D (sm_w6 D ad P S T L M C cp ph fo ne no rc wr) (some (.int (sm_pk z (C.1.2.1 k, C.1.2.2 k)))) := by
  refine sm_met (own := RX3) (by decide) rfl (Nat.le_of_ble_eq_true rfl) ?_
  intro p e s m below meth c ls hC hv hl
  obtain ⟨hx, hb, hml, hr, hown, hlk, hts⟩ := id hC
  obtain ⟨hP, hK⟩ := hv
  have hl : lv_has ls 3 [(0, .ref (ad 28)), (1, .int (nI k)), (2, .int (sm_b z))] := hl
  refine lv_iload_n hx hb dX3_number_0 rfl (lv_at hl 1 rfl) ?_
  refine sm_cNPr (rest := []) hC hK hP (c_X6_isKey D ad P S T L M C cp ph fo ne no rc wr k (by omega)) qyX6_isKey (List.mem_of_getElem? (i := 0) rfl) ⟨Nat.le_of_ble_eq_true rfl, Nat.le_of_ble_eq_true rfl⟩ rfl hl.1 rfl (Nat.le_of_ble_eq_true rfl) dX3_number_1 ⟨Nat.le_of_ble_eq_true rfl, Nat.le_of_ble_eq_true rfl⟩ ?_
  refine lv_if_ne (tgt := 9) hx hb dX3_number_4 (by decide) (fun _ => ?_) (fun h => absurd h (by decide))
  refine lv_iload_n hx hb dX3_number_9 rfl (lv_at hl 2 rfl) ?_
  refine lv_if_eq (tgt := 22) hx hb dX3_number_10 (by decide) (fun c_1 => ?_) (fun c_1 => ?_)
  · have c_1 := sm_b0 c_1
    refine lv_aload_n hx hb dX3_number_22 rfl (lv_at hl 0 rfl) ?_
    refine sm_gt (ci := 3) (C := RX3) (T := TX3) (N := 3) hx hb hts inlX3 hown hK hP 28 rfl rfl 1 (by decide) wf_RX3_15 rfl dX3_number_23 ?_
    refine lv_iload_n hx hb dX3_number_26 rfl (lv_at hl 1 rfl) ?_
    refine sm_ild hx hb hK hP 30 rfl k rfl (by omega) (by decide) dX3_number_27 ?_
    exact sm_retP hC (by first | rfl | (simp [sm_pk, c_1]; done) | (simp [sm_pk] at c_1; simp [sm_pk, c_1]; done) | (simp_all [sm_pk]; done)) rfl dX3_number_28
  · have c_1 := sm_b1 c_1
    refine lv_aload_n hx hb dX3_number_13 rfl (lv_at hl 0 rfl) ?_
    refine sm_gt (ci := 3) (C := RX3) (T := TX3) (N := 3) hx hb hts inlX3 hown hK hP 28 rfl rfl 2 (by decide) wf_RX3_19 rfl dX3_number_14 ?_
    refine lv_iload_n hx hb dX3_number_17 rfl (lv_at hl 1 rfl) ?_
    refine sm_ild hx hb hK hP 31 rfl k rfl (by omega) (by decide) dX3_number_18 ?_
    refine lv_goto (tgt := 28) hx hb dX3_number_19 (by decide) ?_
    exact sm_retP hC (by first | rfl | (simp [sm_pk, c_1]; done) | (simp [sm_pk] at c_1; simp [sm_pk, c_1]; done) | (simp_all [sm_pk]; done)) rfl dX3_number_28

set_option maxHeartbeats 1000000 in
set_option maxRecDepth 100000 in
theorem c_X3_put_c (k : Nat) (hk : k < 40) (a b : Int32) : sm_MC l yX3_put cX3_put 4 none 1 21 [.ref (ad 28), .int (nI k), .int a, .int b] D (sm_w6 D ad P S T L M C cp ph fo ne no rc wr) (fun w => w = sm_w6 D ad P S T L M (sm_putS C.1 k a b, C.2) cp ph fo ne no rc wr) none := by
  refine sm_met (own := RX3) (by decide) rfl (Nat.le_of_ble_eq_true rfl) ?_
  intro p e s m below meth c ls hC hv hl
  obtain ⟨hx, hb, hml, hr, hown, hlk, hts⟩ := id hC
  obtain ⟨⟨hP, hK⟩, hD, hZ⟩ := hv
  have hS : va_S (sm_ad (sm_w6 D ad P S T L M C cp ph fo ne no rc wr)) s.heap s.heap [] := va_S.rf
  have hl : lv_has ls 4 [(0, .ref (ad 28)), (1, .int (nI k)), (2, .int a), (3, .int b)] := hl
  refine lv_iload_n hx hb dX3_put_0 rfl (lv_at hl 1 rfl) ?_
  refine sm_cNPr (rest := []) hC hK hP (c_X6_isKey D ad P S T L M C cp ph fo ne no rc wr k (by omega)) qyX6_isKey (List.mem_of_getElem? (i := 0) rfl) ⟨Nat.le_of_ble_eq_true rfl, Nat.le_of_ble_eq_true rfl⟩ rfl hl.1 rfl (Nat.le_of_ble_eq_true rfl) dX3_put_1 ⟨Nat.le_of_ble_eq_true rfl, Nat.le_of_ble_eq_true rfl⟩ ?_
  refine lv_if_eq (tgt := 28) hx hb dX3_put_4 (by decide) (fun h => absurd h (by decide)) (fun _ => ?_)
  refine lv_aload_n hx hb dX3_put_7 rfl (lv_at hl 0 rfl) ?_
  refine sm_gt (ci := 3) (C := RX3) (T := TX3) (N := 3) hx hb hts inlX3 hown hK hP 28 rfl rfl 0 (by decide) wf_RX3_9 rfl dX3_put_8 ?_
  refine lv_iload_n hx hb dX3_put_11 rfl (lv_at hl 1 rfl) ?_
  refine lv_iconst (v := 1) hx hb dX3_put_12 (by decide) ?_
  refine sm_zst hx hb hK hP hD hS 29 rfl true rfl k rfl (by omega) (by decide) dX3_put_13 (fun H locs hP hD hS => ?_)
  have hP : va_P D.1 sm_cl (sm_w6 D ad P S T L M ((va_up C.1.1 k true, C.1.2), C.2) cp ph fo ne no rc wr) H := hP
  have hD : va_D (sm_ad (sm_w6 D ad P S T L M C cp ph fo ne no rc wr)) (sm_w6 D ad P S T L M ((va_up C.1.1 k true, C.1.2), C.2) cp ph fo ne no rc wr) := hD
  refine lv_aload_n hx hb dX3_put_14 rfl (lv_at hl 0 rfl) ?_
  refine sm_gt (ci := 3) (C := RX3) (T := TX3) (N := 3) hx hb hts inlX3 hown hK hP 28 rfl rfl 1 (by decide) wf_RX3_15 rfl dX3_put_15 ?_
  refine lv_iload_n hx hb dX3_put_18 rfl (lv_at hl 1 rfl) ?_
  refine lv_iload_n hx hb dX3_put_19 rfl (lv_at hl 2 rfl) ?_
  refine sm_ist hx hb hK hP hD hS 30 rfl k rfl (by omega) (by decide) dX3_put_20 (fun H locs hP hD hS => ?_)
  have hP : va_P D.1 sm_cl (sm_w6 D ad P S T L M ((va_up C.1.1 k true, va_up C.1.2.1 k a, C.1.2.2), C.2) cp ph fo ne no rc wr) H := hP
  have hD : va_D (sm_ad (sm_w6 D ad P S T L M C cp ph fo ne no rc wr)) (sm_w6 D ad P S T L M ((va_up C.1.1 k true, va_up C.1.2.1 k a, C.1.2.2), C.2) cp ph fo ne no rc wr) := hD
  refine lv_aload_n hx hb dX3_put_21 rfl (lv_at hl 0 rfl) ?_
  refine sm_gt (ci := 3) (C := RX3) (T := TX3) (N := 3) hx hb hts inlX3 hown hK hP 28 rfl rfl 2 (by decide) wf_RX3_19 rfl dX3_put_22 ?_
  refine lv_iload_n hx hb dX3_put_25 rfl (lv_at hl 1 rfl) ?_
  refine lv_iload_n hx hb dX3_put_26 rfl (lv_at hl 3 rfl) ?_
  refine sm_ist hx hb hK hP hD hS 31 rfl k rfl (by omega) (by decide) dX3_put_27 (fun H locs hP hD hS => ?_)
  have hP : va_P D.1 sm_cl (sm_w6 D ad P S T L M ((va_up C.1.1 k true, va_up C.1.2.1 k a, va_up C.1.2.2 k b), C.2) cp ph fo ne no rc wr) H := hP
  have hD : va_D (sm_ad (sm_w6 D ad P S T L M C cp ph fo ne no rc wr)) (sm_w6 D ad P S T L M ((va_up C.1.1 k true, va_up C.1.2.1 k a, va_up C.1.2.2 k b), C.2) cp ph fo ne no rc wr) := hD
  exact sm_vretC hC hP hD hS rfl  (by exact rfl) dX3_put_28

end
