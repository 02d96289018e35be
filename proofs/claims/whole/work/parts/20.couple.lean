/-! Couple, and two statics -/
section
def sm_pk (z : Bool) (c : sm_Cp) : Int32 := if z = true then c.2 else c.1
variable {l : Launch} (D : sm_G) (ad : Nat → Nat) (P : sm_Sp) (S : sm_Rw) (T : sm_Tg) (L M : sm_Lg) (C : sm_Pt) (cp : sm_Cp) (ph : Int32) (fo ne no rc : Nat) (wr : va_W)
set_option maxHeartbeats 1000000 in
set_option maxRecDepth 100000 in
theorem c_X6_isKey (k : Nat) (hk : k < 40) : sm_MP l yX6_isKey cX6_isKey 1 (some .boolean) 0 0 [.int (nI k)] D (sm_w6 D ad P S T L M C cp ph fo ne no rc wr) (some (.int (sm_b true))) := by
  refine sm_met (own := RX6) (by decide) rfl (Nat.le_of_ble_eq_true rfl) ?_
  intro p e s m below meth c ls hC hv hl
  obtain ⟨hx, hb, hml, hr, hown, hlk, hts⟩ := id hC
  obtain ⟨hP, hK⟩ := hv
  have hl : lv_has ls 1 [(0, .int (nI k))] := hl
  refine lv_iload_n hx hb dX6_isKey_0 rfl (lv_at hl 0 rfl) ?_
  refine lv_if_lt (tgt := 14) hx hb dX6_isKey_1 (by decide) (fun h => absurd h (fun z => absurd (sm_Nlt (a := k) (b := 0) z (by omega) (by omega)) (Nat.not_lt_zero _))) (fun _ => ?_)
  refine lv_iload_n hx hb dX6_isKey_4 rfl (lv_at hl 0 rfl) ?_
  refine lv_bipush (v := 40) hx hb dX6_isKey_5 (by decide) ?_
  refine lv_icmp_ge (tgt := 14) hx hb dX6_isKey_7 (by decide) (fun h => absurd h (Int32.not_le.mpr (sm_pNlt (a := k) (b := 40) hk (by omega)))) (fun _ => ?_)
  refine lv_iconst (v := 1) hx hb dX6_isKey_10 (by decide) ?_
  refine lv_goto (tgt := 15) hx hb dX6_isKey_11 (by decide) ?_
  exact sm_retP hC (rfl) (by decide) dX6_isKey_15

set_option maxHeartbeats 1000000 in
set_option maxRecDepth 100000 in
theorem c_X6_isWithin (x y : Int32) : sm_MP l yX6_isWithin cX6_isWithin 2 (some .boolean) 0 0 [.int x, .int y] D (sm_w6 D ad P S T L M C cp ph fo ne no rc wr) (some (.int (sm_b (sm_in y x)))) := by
  refine sm_met (own := RX6) (by decide) rfl (Nat.le_of_ble_eq_true rfl) ?_
  intro p e s m below meth c ls hC hv hl
  obtain ⟨hx, hb, hml, hr, hown, hlk, hts⟩ := id hC
  obtain ⟨hP, hK⟩ := hv
  have hl : lv_has ls 2 [(0, .int x), (1, .int y)] := hl
  refine lv_iload_n hx hb dX6_isWithin_0 rfl (lv_at hl 0 rfl) ?_
  refine lv_iload_n hx hb dX6_isWithin_1 rfl (lv_at hl 1 rfl) ?_
  refine lv_ineg hx hb dX6_isWithin_2 ?_
  refine lv_icmp_lt (tgt := 15) hx hb dX6_isWithin_3 (by decide) (fun c_1 => ?_) (fun c_1 => ?_)
  · have c_1_ := c_1
    refine lv_iconst (v := 0) hx hb dX6_isWithin_15 (by decide) ?_
    exact sm_retP hC (by simp [sm_in, sm_b, c_1]) (by decide) dX6_isWithin_16
  · have c_1_ := c_1
    refine lv_iload_n hx hb dX6_isWithin_6 rfl (lv_at hl 0 rfl) ?_
    refine lv_iload_n hx hb dX6_isWithin_7 rfl (lv_at hl 1 rfl) ?_
    refine lv_icmp_gt (tgt := 15) hx hb dX6_isWithin_8 (by decide) (fun c_2 => ?_) (fun c_2 => ?_)
    · have c_2_ := c_2
      refine lv_iconst (v := 0) hx hb dX6_isWithin_15 (by decide) ?_
      exact sm_retP hC (by simp [sm_in, sm_b, c_1, c_2]) (by decide) dX6_isWithin_16
    · have c_2_ := c_2
      refine lv_iconst (v := 1) hx hb dX6_isWithin_11 (by decide) ?_
      refine lv_goto (tgt := 16) hx hb dX6_isWithin_12 (by decide) ?_
      exact sm_retP hC (by simp [sm_in, sm_b, c_1, c_2]) (by decide) dX6_isWithin_16

set_option maxHeartbeats 1000000 in
set_option maxRecDepth 100000 in
theorem c_X0_set (a b : Int32) : sm_MC l yX0_set cX0_set 3 none 0 0 [.ref (ad 32), .int a, .int b] D (sm_w6 D ad P S T L M C cp ph fo ne no rc wr) (fun w => w = sm_w6 D ad P S T L M C (a, b) ph fo ne no rc wr) none := by
  refine sm_met (own := RX0) (by decide) rfl (Nat.le_of_ble_eq_true rfl) ?_
  intro p e s m below meth c ls hC hv hl
  obtain ⟨hx, hb, hml, hr, hown, hlk, hts⟩ := id hC
  obtain ⟨⟨hP, hK⟩, hD, hZ⟩ := hv
  have hS : va_S (sm_ad (sm_w6 D ad P S T L M C cp ph fo ne no rc wr)) s.heap s.heap [] := va_S.rf
  have hl : lv_has ls 3 [(0, .ref (ad 32)), (1, .int a), (2, .int b)] := hl
  refine lv_aload_n hx hb dX0_set_0 rfl (lv_at hl 0 rfl) ?_
  refine lv_iload_n hx hb dX0_set_1 rfl (lv_at hl 1 rfl) ?_
  refine sm_pt (ci := 0) (C := RX0) (T := TX0) (N := 2) hx hb hts inlX0 tyX0 tyX0_ok nmX0 hown hK hP hD hS 32 rfl rfl 0 (by decide) wf_RX0_7 rfl rfl rfl (Nat.le_of_ble_eq_true rfl) dX0_set_2 (fun H locs hP hD hS => ?_)
  have hP : va_P D.1 sm_cl (sm_w6 D ad P S T L M C (a, cp.2) ph fo ne no rc wr) H := hP
  have hD : va_D (sm_ad (sm_w6 D ad P S T L M C cp ph fo ne no rc wr)) (sm_w6 D ad P S T L M C (a, cp.2) ph fo ne no rc wr) := hD
  refine lv_aload_n hx hb dX0_set_5 rfl (lv_at hl 0 rfl) ?_
  refine lv_iload_n hx hb dX0_set_6 rfl (lv_at hl 2 rfl) ?_
  refine sm_pt (ci := 0) (C := RX0) (T := TX0) (N := 2) hx hb hts inlX0 tyX0 tyX0_ok nmX0 hown hK hP hD hS 32 rfl rfl 1 (by decide) wf_RX0_13 rfl rfl rfl (Nat.le_of_ble_eq_true rfl) dX0_set_7 (fun H locs hP hD hS => ?_)
  have hP : va_P D.1 sm_cl (sm_w6 D ad P S T L M C (a, b) ph fo ne no rc wr) H := hP
  have hD : va_D (sm_ad (sm_w6 D ad P S T L M C cp ph fo ne no rc wr)) (sm_w6 D ad P S T L M C (a, b) ph fo ne no rc wr) := hD
  exact sm_vretC hC hP hD hS rfl  (by exact rfl) dX0_set_10

set_option maxHeartbeats 1000000 in
set_option maxRecDepth 100000 in
theorem c_X0_number (z : Bool) : sm_MP l yX0_number cX0_number 2 (some .int) 0 0 [.ref (ad 32), .int (sm_b z)] D (sm_w6 D ad P S T L M C cp ph fo ne no rc wr) (some (.int (sm_pk z cp))) := by
  refine sm_met (own := RX0) (by decide) rfl (Nat.le_of_ble_eq_true rfl) ?_
  intro p e s m below meth c ls hC hv hl
  obtain ⟨hx, hb, hml, hr, hown, hlk, hts⟩ := id hC
  obtain ⟨hP, hK⟩ := hv
  have hl : lv_has ls 2 [(0, .ref (ad 32)), (1, .int (sm_b z))] := hl
  refine lv_iload_n hx hb dX0_number_0 rfl (lv_at hl 1 rfl) ?_
  refine lv_if_eq (tgt := 11) hx hb dX0_number_1 (by decide) (fun c_1 => ?_) (fun c_1 => ?_)
  · have c_1 := sm_b0 c_1
    refine lv_aload_n hx hb dX0_number_11 rfl (lv_at hl 0 rfl) ?_
    refine sm_gt (ci := 0) (C := RX0) (T := TX0) (N := 2) hx hb hts inlX0 hown hK hP 32 rfl rfl 0 (by decide) wf_RX0_7 rfl dX0_number_12 ?_
    exact sm_retP hC (by simp [sm_pk, c_1]) rfl dX0_number_15
  · have c_1 := sm_b1 c_1
    refine lv_aload_n hx hb dX0_number_4 rfl (lv_at hl 0 rfl) ?_
    refine sm_gt (ci := 0) (C := RX0) (T := TX0) (N := 2) hx hb hts inlX0 hown hK hP 32 rfl rfl 1 (by decide) wf_RX0_13 rfl dX0_number_5 ?_
    refine lv_goto (tgt := 15) hx hb dX0_number_8 (by decide) ?_
    exact sm_retP hC (by simp [sm_pk, c_1]) rfl dX0_number_15

set_option maxHeartbeats 1000000 in
set_option maxRecDepth 100000 in
theorem c_X0_areBothWithin (x : Int32) : sm_MP l yX0_areBothWithin cX0_areBothWithin 2 (some .boolean) 0 0 [.ref (ad 32), .int x] D (sm_w6 D ad P S T L M C cp ph fo ne no rc wr) (some (.int (sm_b (sm_wi x cp)))) := by
  refine sm_met (own := RX0) (by decide) rfl (Nat.le_of_ble_eq_true rfl) ?_
  intro p e s m below meth c ls hC hv hl
  obtain ⟨hx, hb, hml, hr, hown, hlk, hts⟩ := id hC
  obtain ⟨hP, hK⟩ := hv
  have hl : lv_has ls 2 [(0, .ref (ad 32)), (1, .int x)] := hl
  refine lv_aload_n hx hb dX0_areBothWithin_0 rfl (lv_at hl 0 rfl) ?_
  refine sm_gt (ci := 0) (C := RX0) (T := TX0) (N := 2) hx hb hts inlX0 hown hK hP 32 rfl rfl 0 (by decide) wf_RX0_7 rfl dX0_areBothWithin_1 ?_
  refine lv_iload_n hx hb dX0_areBothWithin_4 rfl (lv_at hl 1 rfl) ?_
  refine lv_ineg hx hb dX0_areBothWithin_5 ?_
  refine lv_icmp_lt (tgt := 38) hx hb dX0_areBothWithin_6 (by decide) (fun c_1 => ?_) (fun c_1 => ?_)
  · have c_1_ := c_1
    refine lv_iconst (v := 0) hx hb dX0_areBothWithin_38 (by decide) ?_
    exact sm_retP hC (by simp [sm_wi, sm_b, c_1]) (by decide) dX0_areBothWithin_39
  · have c_1_ := c_1
    refine lv_aload_n hx hb dX0_areBothWithin_9 rfl (lv_at hl 0 rfl) ?_
    refine sm_gt (ci := 0) (C := RX0) (T := TX0) (N := 2) hx hb hts inlX0 hown hK hP 32 rfl rfl 0 (by decide) wf_RX0_7 rfl dX0_areBothWithin_10 ?_
    refine lv_iload_n hx hb dX0_areBothWithin_13 rfl (lv_at hl 1 rfl) ?_
    refine lv_icmp_gt (tgt := 38) hx hb dX0_areBothWithin_14 (by decide) (fun c_2 => ?_) (fun c_2 => ?_)
    · have c_2_ := c_2
      refine lv_iconst (v := 0) hx hb dX0_areBothWithin_38 (by decide) ?_
      exact sm_retP hC (by simp [sm_wi, sm_b, c_1, c_2]) (by decide) dX0_areBothWithin_39
    · have c_2_ := c_2
      refine lv_aload_n hx hb dX0_areBothWithin_17 rfl (lv_at hl 0 rfl) ?_
      refine sm_gt (ci := 0) (C := RX0) (T := TX0) (N := 2) hx hb hts inlX0 hown hK hP 32 rfl rfl 1 (by decide) wf_RX0_13 rfl dX0_areBothWithin_18 ?_
      refine lv_iload_n hx hb dX0_areBothWithin_21 rfl (lv_at hl 1 rfl) ?_
      refine lv_ineg hx hb dX0_areBothWithin_22 ?_
      refine lv_icmp_lt (tgt := 38) hx hb dX0_areBothWithin_23 (by decide) (fun c_3 => ?_) (fun c_3 => ?_)
      · have c_3_ := c_3
        refine lv_iconst (v := 0) hx hb dX0_areBothWithin_38 (by decide) ?_
        exact sm_retP hC (by simp [sm_wi, sm_b, c_1, c_2, c_3]) (by decide) dX0_areBothWithin_39
      · have c_3_ := c_3
        refine lv_aload_n hx hb dX0_areBothWithin_26 rfl (lv_at hl 0 rfl) ?_
        refine sm_gt (ci := 0) (C := RX0) (T := TX0) (N := 2) hx hb hts inlX0 hown hK hP 32 rfl rfl 1 (by decide) wf_RX0_13 rfl dX0_areBothWithin_27 ?_
        refine lv_iload_n hx hb dX0_areBothWithin_30 rfl (lv_at hl 1 rfl) ?_
        refine lv_icmp_gt (tgt := 38) hx hb dX0_areBothWithin_31 (by decide) (fun c_4 => ?_) (fun c_4 => ?_)
        · have c_4_ := c_4
          refine lv_iconst (v := 0) hx hb dX0_areBothWithin_38 (by decide) ?_
          exact sm_retP hC (by simp [sm_wi, sm_b, c_1, c_2, c_3, c_4]) (by decide) dX0_areBothWithin_39
        · have c_4_ := c_4
          refine lv_iconst (v := 1) hx hb dX0_areBothWithin_34 (by decide) ?_
          refine lv_goto (tgt := 39) hx hb dX0_areBothWithin_35 (by decide) ?_
          exact sm_retP hC (by simp [sm_wi, sm_b, c_1, c_2, c_3, c_4]) (by decide) dX0_areBothWithin_39

set_option maxHeartbeats 1000000 in
set_option maxRecDepth 100000 in
theorem c_X0_step (k n : Int32) : sm_MC l yX0_step cX0_step 4 none 0 0 [.ref (ad 32), .int k, .int n] D (sm_w6 D ad P S T L M C cp ph fo ne no rc wr) (fun w => w = sm_w6 D ad P S T L M C (sm_stepF k n cp) ph fo ne no rc wr) none := by
  refine sm_met (own := RX0) (by decide) rfl (Nat.le_of_ble_eq_true rfl) ?_
  intro p e s m below meth c ls hC hv hl
  obtain ⟨hx, hb, hml, hr, hown, hlk, hts⟩ := id hC
  obtain ⟨⟨hP, hK⟩, hD, hZ⟩ := hv
  have hS : va_S (sm_ad (sm_w6 D ad P S T L M C cp ph fo ne no rc wr)) s.heap s.heap [] := va_S.rf
  have hl : lv_has ls 4 [(0, .ref (ad 32)), (1, .int k), (2, .int n)] := hl
  refine lv_aload_n hx hb dX0_step_0 rfl (lv_at hl 0 rfl) ?_
  refine sm_gt (ci := 0) (C := RX0) (T := TX0) (N := 2) hx hb hts inlX0 hown hK hP 32 rfl rfl 0 (by decide) wf_RX0_7 rfl dX0_step_1 ?_
  refine lv_istore_n (lv' := [(3, .int cp.1), (0, .ref (ad 32)), (1, .int k), (2, .int n)]) hx hb dX0_step_4 rfl hl (by decide) rfl (fun ls hl => ?_)
  refine lv_iload_n hx hb dX0_step_5 rfl (lv_at hl 2 rfl) ?_
  refine lv_bipush (v := 112) hx hb dX0_step_6 (by decide) ?_
  refine lv_icmp_ne (tgt := 24) hx hb dX0_step_8 (by decide) (fun c_1 => ?_) (fun c_1 => ?_)
  · have c_1_ := c_1
    refine lv_iload_n hx hb dX0_step_24 rfl (lv_at hl 2 rfl) ?_
    refine lv_bipush (v := 109) hx hb dX0_step_25 (by decide) ?_
    refine lv_icmp_ne (tgt := 43) hx hb dX0_step_27 (by decide) (fun c_2 => ?_) (fun c_2 => ?_)
    · have c_2_ := c_2
      refine lv_iload_n hx hb dX0_step_43 rfl (lv_at hl 2 rfl) ?_
      refine lv_bipush (v := 110) hx hb dX0_step_44 (by decide) ?_
      refine lv_icmp_ne (tgt := 61) hx hb dX0_step_46 (by decide) (fun c_3 => ?_) (fun c_3 => ?_)
      · have c_3_ := c_3
        refine lv_iload_n hx hb dX0_step_61 rfl (lv_at hl 2 rfl) ?_
        refine lv_bipush (v := 120) hx hb dX0_step_62 (by decide) ?_
        refine lv_icmp_ne (tgt := 83) hx hb dX0_step_64 (by decide) (fun c_4 => ?_) (fun c_4 => ?_)
        · have c_4_ := c_4
          refine lv_aload_n hx hb dX0_step_83 rfl (lv_at hl 1 rfl) ?_
          refine lv_dup hx hb dX0_step_84 rfl ?_
          refine sm_gt (ci := 0) (C := RX0) (T := TX0) (N := 2) hx hb hts inlX0 hown hK hP 32 rfl rfl 1 (by decide) wf_RX0_13 rfl dX0_step_85 ?_
          refine lv_aload_n hx hb dX0_step_88 rfl (lv_at hl 1 rfl) ?_
          refine sm_gt (ci := 0) (C := RX0) (T := TX0) (N := 2) hx hb hts inlX0 hown hK hP 32 rfl rfl 0 (by decide) wf_RX0_7 rfl dX0_step_89 ?_
          refine lv_iadd hx hb dX0_step_92 ?_
          refine sm_pt (ci := 0) (C := RX0) (T := TX0) (N := 2) hx hb hts inlX0 tyX0 tyX0_ok nmX0 hown hK hP hD hS 32 rfl rfl 1 (by decide) wf_RX0_13 rfl rfl rfl (Nat.le_of_ble_eq_true rfl) dX0_step_93 (fun H locs hP hD hS => ?_)
          have hP : va_P D.1 sm_cl (sm_w6 D ad P S T L M C (cp.1, cp.2 + cp.1) ph fo ne no rc wr) H := hP
          have hD : va_D (sm_ad (sm_w6 D ad P S T L M C cp ph fo ne no rc wr)) (sm_w6 D ad P S T L M C (cp.1, cp.2 + cp.1) ph fo ne no rc wr) := hD
          exact sm_vretC hC hP hD hS rfl  (by simp [sm_stepF, c_1, c_2, c_3, c_4]) dX0_step_96
        · have c_4_ := c_4
          refine lv_aload_n hx hb dX0_step_67 rfl (lv_at hl 1 rfl) ?_
          refine lv_aload_n hx hb dX0_step_68 rfl (lv_at hl 1 rfl) ?_
          refine sm_gt (ci := 0) (C := RX0) (T := TX0) (N := 2) hx hb hts inlX0 hown hK hP 32 rfl rfl 1 (by decide) wf_RX0_13 rfl dX0_step_69 ?_
          refine sm_pt (ci := 0) (C := RX0) (T := TX0) (N := 2) hx hb hts inlX0 tyX0 tyX0_ok nmX0 hown hK hP hD hS 32 rfl rfl 0 (by decide) wf_RX0_7 rfl rfl rfl (Nat.le_of_ble_eq_true rfl) dX0_step_72 (fun H locs hP hD hS => ?_)
          have hP : va_P D.1 sm_cl (sm_w6 D ad P S T L M C (cp.2, cp.2) ph fo ne no rc wr) H := hP
          have hD : va_D (sm_ad (sm_w6 D ad P S T L M C cp ph fo ne no rc wr)) (sm_w6 D ad P S T L M C (cp.2, cp.2) ph fo ne no rc wr) := hD
          refine lv_aload_n hx hb dX0_step_75 rfl (lv_at hl 1 rfl) ?_
          refine lv_iload_n hx hb dX0_step_76 rfl (lv_at hl 0 rfl) ?_
          refine sm_pt (ci := 0) (C := RX0) (T := TX0) (N := 2) hx hb hts inlX0 tyX0 tyX0_ok nmX0 hown hK hP hD hS 32 rfl rfl 1 (by decide) wf_RX0_13 rfl rfl rfl (Nat.le_of_ble_eq_true rfl) dX0_step_77 (fun H locs hP hD hS => ?_)
          have hP : va_P D.1 sm_cl (sm_w6 D ad P S T L M C (cp.2, cp.1) ph fo ne no rc wr) H := hP
          have hD : va_D (sm_ad (sm_w6 D ad P S T L M C cp ph fo ne no rc wr)) (sm_w6 D ad P S T L M C (cp.2, cp.1) ph fo ne no rc wr) := hD
          refine lv_goto (tgt := 96) hx hb dX0_step_80 (by decide) ?_
          exact sm_vretC hC hP hD hS rfl  (by simp [sm_stepF, c_1, c_2, c_3, c_4]) dX0_step_96
      · have c_3_ := c_3
        refine lv_aload_n hx hb dX0_step_49 rfl (lv_at hl 1 rfl) ?_
        refine lv_aload_n hx hb dX0_step_50 rfl (lv_at hl 1 rfl) ?_
        refine sm_gt (ci := 0) (C := RX0) (T := TX0) (N := 2) hx hb hts inlX0 hown hK hP 32 rfl rfl 0 (by decide) wf_RX0_7 rfl dX0_step_51 ?_
        refine lv_ineg hx hb dX0_step_54 ?_
        refine sm_pt (ci := 0) (C := RX0) (T := TX0) (N := 2) hx hb hts inlX0 tyX0 tyX0_ok nmX0 hown hK hP hD hS 32 rfl rfl 0 (by decide) wf_RX0_7 rfl rfl rfl (Nat.le_of_ble_eq_true rfl) dX0_step_55 (fun H locs hP hD hS => ?_)
        have hP : va_P D.1 sm_cl (sm_w6 D ad P S T L M C (-cp.1, cp.2) ph fo ne no rc wr) H := hP
        have hD : va_D (sm_ad (sm_w6 D ad P S T L M C cp ph fo ne no rc wr)) (sm_w6 D ad P S T L M C (-cp.1, cp.2) ph fo ne no rc wr) := hD
        refine lv_goto (tgt := 96) hx hb dX0_step_58 (by decide) ?_
        exact sm_vretC hC hP hD hS rfl  (by simp [sm_stepF, c_1, c_2, c_3]) dX0_step_96
    · have c_2_ := c_2
      refine lv_aload_n hx hb dX0_step_30 rfl (lv_at hl 1 rfl) ?_
      refine lv_dup hx hb dX0_step_31 rfl ?_
      refine sm_gt (ci := 0) (C := RX0) (T := TX0) (N := 2) hx hb hts inlX0 hown hK hP 32 rfl rfl 0 (by decide) wf_RX0_7 rfl dX0_step_32 ?_
      refine lv_iload_n hx hb dX0_step_35 rfl (lv_at hl 3 rfl) ?_
      refine lv_imul hx hb dX0_step_36 ?_
      refine sm_pt (ci := 0) (C := RX0) (T := TX0) (N := 2) hx hb hts inlX0 tyX0 tyX0_ok nmX0 hown hK hP hD hS 32 rfl rfl 0 (by decide) wf_RX0_7 rfl rfl rfl (Nat.le_of_ble_eq_true rfl) dX0_step_37 (fun H locs hP hD hS => ?_)
      have hP : va_P D.1 sm_cl (sm_w6 D ad P S T L M C (cp.1 * n, cp.2) ph fo ne no rc wr) H := hP
      have hD : va_D (sm_ad (sm_w6 D ad P S T L M C cp ph fo ne no rc wr)) (sm_w6 D ad P S T L M C (cp.1 * n, cp.2) ph fo ne no rc wr) := hD
      refine lv_goto (tgt := 96) hx hb dX0_step_40 (by decide) ?_
      exact sm_vretC hC hP hD hS rfl  (by simp [sm_stepF, c_1, c_2]) dX0_step_96
  · have c_1_ := c_1
    refine lv_aload_n hx hb dX0_step_11 rfl (lv_at hl 1 rfl) ?_
    refine lv_dup hx hb dX0_step_12 rfl ?_
    refine sm_gt (ci := 0) (C := RX0) (T := TX0) (N := 2) hx hb hts inlX0 hown hK hP 32 rfl rfl 0 (by decide) wf_RX0_7 rfl dX0_step_13 ?_
    refine lv_iload_n hx hb dX0_step_16 rfl (lv_at hl 3 rfl) ?_
    refine lv_iadd hx hb dX0_step_17 ?_
    refine sm_pt (ci := 0) (C := RX0) (T := TX0) (N := 2) hx hb hts inlX0 tyX0 tyX0_ok nmX0 hown hK hP hD hS 32 rfl rfl 0 (by decide) wf_RX0_7 rfl rfl rfl (Nat.le_of_ble_eq_true rfl) dX0_step_18 (fun H locs hP hD hS => ?_)
    have hP : va_P D.1 sm_cl (sm_w6 D ad P S T L M C (cp.1 + n, cp.2) ph fo ne no rc wr) H := hP
    have hD : va_D (sm_ad (sm_w6 D ad P S T L M C cp ph fo ne no rc wr)) (sm_w6 D ad P S T L M C (cp.1 + n, cp.2) ph fo ne no rc wr) := hD
    refine lv_goto (tgt := 96) hx hb dX0_step_21 (by decide) ?_
    exact sm_vretC hC hP hD hS rfl  (by simp [sm_stepF, c_1]) dX0_step_96

set_option maxHeartbeats 1000000 in
set_option maxRecDepth 100000 in
theorem c_X0_stepBack (k n : Int32) : sm_MC l yX0_stepBack cX0_stepBack 4 (some .boolean) 0 0 [.ref (ad 32), .int k, .int n] D (sm_w6 D ad P S T L M C cp ph fo ne no rc wr) (fun w => w = sm_w6 D ad P S T L M C ((sm_backF k n cp).2) ph fo ne no rc wr) (some (.int (sm_b ((sm_backF k n cp).1)))) := by
  refine sm_met (own := RX0) (by decide) rfl (Nat.le_of_ble_eq_true rfl) ?_
  intro p e s m below meth c ls hC hv hl
  obtain ⟨hx, hb, hml, hr, hown, hlk, hts⟩ := id hC
  obtain ⟨⟨hP, hK⟩, hD, hZ⟩ := hv
  have hS : va_S (sm_ad (sm_w6 D ad P S T L M C cp ph fo ne no rc wr)) s.heap s.heap [] := va_S.rf
  have hl : lv_has ls 4 [(0, .ref (ad 32)), (1, .int k), (2, .int n)] := hl
  refine lv_aload_n hx hb dX0_stepBack_0 rfl (lv_at hl 0 rfl) ?_
  refine sm_gt (ci := 0) (C := RX0) (T := TX0) (N := 2) hx hb hts inlX0 hown hK hP 32 rfl rfl 0 (by decide) wf_RX0_7 rfl dX0_stepBack_1 ?_
  refine lv_istore_n (lv' := [(3, .int cp.1), (0, .ref (ad 32)), (1, .int k), (2, .int n)]) hx hb dX0_stepBack_4 rfl hl (by decide) rfl (fun ls hl => ?_)
  refine lv_iload_n hx hb dX0_stepBack_5 rfl (lv_at hl 2 rfl) ?_
  refine lv_bipush (v := 109) hx hb dX0_stepBack_6 (by decide) ?_
  refine lv_icmp_ne (tgt := 39) hx hb dX0_stepBack_8 (by decide) (fun c_1 => ?_) (fun c_1 => ?_)
  · have c_1_ := c_1
    refine lv_iload_n hx hb dX0_stepBack_39 rfl (lv_at hl 2 rfl) ?_
    refine lv_bipush (v := 112) hx hb dX0_stepBack_40 (by decide) ?_
    refine lv_icmp_ne (tgt := 58) hx hb dX0_stepBack_42 (by decide) (fun c_2 => ?_) (fun c_2 => ?_)
    · have c_2_ := c_2
      refine lv_iload_n hx hb dX0_stepBack_58 rfl (lv_at hl 2 rfl) ?_
      refine lv_bipush (v := 110) hx hb dX0_stepBack_59 (by decide) ?_
      refine lv_icmp_ne (tgt := 76) hx hb dX0_stepBack_61 (by decide) (fun c_3 => ?_) (fun c_3 => ?_)
      · have c_3_ := c_3
        refine lv_iload_n hx hb dX0_stepBack_76 rfl (lv_at hl 2 rfl) ?_
        refine lv_bipush (v := 120) hx hb dX0_stepBack_77 (by decide) ?_
        refine lv_icmp_ne (tgt := 98) hx hb dX0_stepBack_79 (by decide) (fun c_4 => ?_) (fun c_4 => ?_)
        · have c_4_ := c_4
          refine lv_aload_n hx hb dX0_stepBack_98 rfl (lv_at hl 1 rfl) ?_
          refine lv_dup hx hb dX0_stepBack_99 rfl ?_
          refine sm_gt (ci := 0) (C := RX0) (T := TX0) (N := 2) hx hb hts inlX0 hown hK hP 32 rfl rfl 1 (by decide) wf_RX0_13 rfl dX0_stepBack_100 ?_
          refine lv_aload_n hx hb dX0_stepBack_103 rfl (lv_at hl 1 rfl) ?_
          refine sm_gt (ci := 0) (C := RX0) (T := TX0) (N := 2) hx hb hts inlX0 hown hK hP 32 rfl rfl 0 (by decide) wf_RX0_7 rfl dX0_stepBack_104 ?_
          refine lv_isub hx hb dX0_stepBack_107 ?_
          refine sm_pt (ci := 0) (C := RX0) (T := TX0) (N := 2) hx hb hts inlX0 tyX0 tyX0_ok nmX0 hown hK hP hD hS 32 rfl rfl 1 (by decide) wf_RX0_13 rfl rfl rfl (Nat.le_of_ble_eq_true rfl) dX0_stepBack_108 (fun H locs hP hD hS => ?_)
          have hP : va_P D.1 sm_cl (sm_w6 D ad P S T L M C (cp.1, cp.2 - cp.1) ph fo ne no rc wr) H := hP
          have hD : va_D (sm_ad (sm_w6 D ad P S T L M C cp ph fo ne no rc wr)) (sm_w6 D ad P S T L M C (cp.1, cp.2 - cp.1) ph fo ne no rc wr) := hD
          refine lv_iconst (v := 1) hx hb dX0_stepBack_111 (by decide) ?_
          exact sm_retC hC hP hD hS (by simp [sm_backF, sm_b, c_1, c_2, c_3, c_4]) (by decide) (by simp [sm_backF, c_1, c_2, c_3, c_4]) dX0_stepBack_112
        · have c_4_ := c_4
          refine lv_aload_n hx hb dX0_stepBack_82 rfl (lv_at hl 1 rfl) ?_
          refine lv_aload_n hx hb dX0_stepBack_83 rfl (lv_at hl 1 rfl) ?_
          refine sm_gt (ci := 0) (C := RX0) (T := TX0) (N := 2) hx hb hts inlX0 hown hK hP 32 rfl rfl 1 (by decide) wf_RX0_13 rfl dX0_stepBack_84 ?_
          refine sm_pt (ci := 0) (C := RX0) (T := TX0) (N := 2) hx hb hts inlX0 tyX0 tyX0_ok nmX0 hown hK hP hD hS 32 rfl rfl 0 (by decide) wf_RX0_7 rfl rfl rfl (Nat.le_of_ble_eq_true rfl) dX0_stepBack_87 (fun H locs hP hD hS => ?_)
          have hP : va_P D.1 sm_cl (sm_w6 D ad P S T L M C (cp.2, cp.2) ph fo ne no rc wr) H := hP
          have hD : va_D (sm_ad (sm_w6 D ad P S T L M C cp ph fo ne no rc wr)) (sm_w6 D ad P S T L M C (cp.2, cp.2) ph fo ne no rc wr) := hD
          refine lv_aload_n hx hb dX0_stepBack_90 rfl (lv_at hl 1 rfl) ?_
          refine lv_iload_n hx hb dX0_stepBack_91 rfl (lv_at hl 0 rfl) ?_
          refine sm_pt (ci := 0) (C := RX0) (T := TX0) (N := 2) hx hb hts inlX0 tyX0 tyX0_ok nmX0 hown hK hP hD hS 32 rfl rfl 1 (by decide) wf_RX0_13 rfl rfl rfl (Nat.le_of_ble_eq_true rfl) dX0_stepBack_92 (fun H locs hP hD hS => ?_)
          have hP : va_P D.1 sm_cl (sm_w6 D ad P S T L M C (cp.2, cp.1) ph fo ne no rc wr) H := hP
          have hD : va_D (sm_ad (sm_w6 D ad P S T L M C cp ph fo ne no rc wr)) (sm_w6 D ad P S T L M C (cp.2, cp.1) ph fo ne no rc wr) := hD
          refine lv_goto (tgt := 111) hx hb dX0_stepBack_95 (by decide) ?_
          refine lv_iconst (v := 1) hx hb dX0_stepBack_111 (by decide) ?_
          exact sm_retC hC hP hD hS (by simp [sm_backF, sm_b, c_1, c_2, c_3, c_4]) (by decide) (by simp [sm_backF, c_1, c_2, c_3, c_4]) dX0_stepBack_112
      · have c_3_ := c_3
        refine lv_aload_n hx hb dX0_stepBack_64 rfl (lv_at hl 1 rfl) ?_
        refine lv_aload_n hx hb dX0_stepBack_65 rfl (lv_at hl 1 rfl) ?_
        refine sm_gt (ci := 0) (C := RX0) (T := TX0) (N := 2) hx hb hts inlX0 hown hK hP 32 rfl rfl 0 (by decide) wf_RX0_7 rfl dX0_stepBack_66 ?_
        refine lv_ineg hx hb dX0_stepBack_69 ?_
        refine sm_pt (ci := 0) (C := RX0) (T := TX0) (N := 2) hx hb hts inlX0 tyX0 tyX0_ok nmX0 hown hK hP hD hS 32 rfl rfl 0 (by decide) wf_RX0_7 rfl rfl rfl (Nat.le_of_ble_eq_true rfl) dX0_stepBack_70 (fun H locs hP hD hS => ?_)
        have hP : va_P D.1 sm_cl (sm_w6 D ad P S T L M C (-cp.1, cp.2) ph fo ne no rc wr) H := hP
        have hD : va_D (sm_ad (sm_w6 D ad P S T L M C cp ph fo ne no rc wr)) (sm_w6 D ad P S T L M C (-cp.1, cp.2) ph fo ne no rc wr) := hD
        refine lv_goto (tgt := 111) hx hb dX0_stepBack_73 (by decide) ?_
        refine lv_iconst (v := 1) hx hb dX0_stepBack_111 (by decide) ?_
        exact sm_retC hC hP hD hS (by simp [sm_backF, sm_b, c_1, c_2, c_3]) (by decide) (by simp [sm_backF, c_1, c_2, c_3]) dX0_stepBack_112
    · have c_2_ := c_2
      refine lv_aload_n hx hb dX0_stepBack_45 rfl (lv_at hl 1 rfl) ?_
      refine lv_dup hx hb dX0_stepBack_46 rfl ?_
      refine sm_gt (ci := 0) (C := RX0) (T := TX0) (N := 2) hx hb hts inlX0 hown hK hP 32 rfl rfl 0 (by decide) wf_RX0_7 rfl dX0_stepBack_47 ?_
      refine lv_iload_n hx hb dX0_stepBack_50 rfl (lv_at hl 3 rfl) ?_
      refine lv_isub hx hb dX0_stepBack_51 ?_
      refine sm_pt (ci := 0) (C := RX0) (T := TX0) (N := 2) hx hb hts inlX0 tyX0 tyX0_ok nmX0 hown hK hP hD hS 32 rfl rfl 0 (by decide) wf_RX0_7 rfl rfl rfl (Nat.le_of_ble_eq_true rfl) dX0_stepBack_52 (fun H locs hP hD hS => ?_)
      have hP : va_P D.1 sm_cl (sm_w6 D ad P S T L M C (cp.1 - n, cp.2) ph fo ne no rc wr) H := hP
      have hD : va_D (sm_ad (sm_w6 D ad P S T L M C cp ph fo ne no rc wr)) (sm_w6 D ad P S T L M C (cp.1 - n, cp.2) ph fo ne no rc wr) := hD
      refine lv_goto (tgt := 111) hx hb dX0_stepBack_55 (by decide) ?_
      refine lv_iconst (v := 1) hx hb dX0_stepBack_111 (by decide) ?_
      exact sm_retC hC hP hD hS (by simp [sm_backF, sm_b, c_1, c_2]) (by decide) (by simp [sm_backF, c_1, c_2]) dX0_stepBack_112
  · have c_1_ := c_1
    refine lv_iload_n hx hb dX0_stepBack_11 rfl (lv_at hl 3 rfl) ?_
    refine lv_if_eq (tgt := 24) hx hb dX0_stepBack_12 (by decide) (fun c_5 => ?_) (fun c_5 => ?_)
    · have c_5_ := c_5
      refine lv_iconst (v := 0) hx hb dX0_stepBack_24 (by decide) ?_
      exact sm_retC hC hP hD hS (by simp [sm_backF, sm_b, c_1, c_5]) (by decide) (by simp [sm_backF, c_1, c_5]) dX0_stepBack_25
    · have c_5_ := c_5
      refine lv_aload_n hx hb dX0_stepBack_15 rfl (lv_at hl 1 rfl) ?_
      refine sm_gt (ci := 0) (C := RX0) (T := TX0) (N := 2) hx hb hts inlX0 hown hK hP 32 rfl rfl 0 (by decide) wf_RX0_7 rfl dX0_stepBack_16 ?_
      refine lv_iload_n hx hb dX0_stepBack_19 rfl (lv_at hl 3 rfl) ?_
      refine lv_irem hx hb dX0_stepBack_20 c_5 ?_
      refine lv_if_eq (tgt := 26) hx hb dX0_stepBack_21 (by decide) (fun c_6 => ?_) (fun c_6 => ?_)
      · have c_6_ := c_6
        refine lv_aload_n hx hb dX0_stepBack_26 rfl (lv_at hl 1 rfl) ?_
        refine lv_dup hx hb dX0_stepBack_27 rfl ?_
        refine sm_gt (ci := 0) (C := RX0) (T := TX0) (N := 2) hx hb hts inlX0 hown hK hP 32 rfl rfl 0 (by decide) wf_RX0_7 rfl dX0_stepBack_28 ?_
        refine lv_iload_n hx hb dX0_stepBack_31 rfl (lv_at hl 3 rfl) ?_
        refine lv_idiv hx hb dX0_stepBack_32 c_5 ?_
        refine sm_pt (ci := 0) (C := RX0) (T := TX0) (N := 2) hx hb hts inlX0 tyX0 tyX0_ok nmX0 hown hK hP hD hS 32 rfl rfl 0 (by decide) wf_RX0_7 rfl rfl rfl (Nat.le_of_ble_eq_true rfl) dX0_stepBack_33 (fun H locs hP hD hS => ?_)
        have hP : va_P D.1 sm_cl (sm_w6 D ad P S T L M C (cp.1 / n, cp.2) ph fo ne no rc wr) H := hP
        have hD : va_D (sm_ad (sm_w6 D ad P S T L M C cp ph fo ne no rc wr)) (sm_w6 D ad P S T L M C (cp.1 / n, cp.2) ph fo ne no rc wr) := hD
        refine lv_goto (tgt := 111) hx hb dX0_stepBack_36 (by decide) ?_
        refine lv_iconst (v := 1) hx hb dX0_stepBack_111 (by decide) ?_
        exact sm_retC hC hP hD hS (by simp [sm_backF, sm_b, c_1, c_5, c_6]) (by decide) (by simp [sm_backF, c_1, c_5, c_6]) dX0_stepBack_112
      · have c_6_ := c_6
        refine lv_iconst (v := 0) hx hb dX0_stepBack_24 (by decide) ?_
        exact sm_retC hC hP hD hS (by simp [sm_backF, sm_b, c_1, c_5, c_6]) (by decide) (by simp [sm_backF, c_1, c_5, c_6]) dX0_stepBack_25

end
