/-! Turning, Target, Log -/
section
theorem sm_trS {P : sm_Sp} {i : Nat} {q : sm_Cp} (h : i < P.1) : sm_trG P (P.1 - i) i q = if sm_wi 99999 (sm_stepF (P.2.1 i) (P.2.2 i) q) = true then sm_trG P (P.1 - (i + 1)) (i + 1) (sm_stepF (P.2.1 i) (P.2.2 i) q) else (false, sm_stepF (P.2.1 i) (P.2.2 i) q) := by
  obtain ⟨k, hk⟩ : ∃ k, P.1 - i = k + 1 := ⟨P.1 - i - 1, by omega⟩
  rw [hk, show P.1 - (i + 1) = k by omega]
  rfl
theorem sm_bkS {P : sm_Sp} {j : Nat} {q : sm_Cp} (h : j < P.1) : sm_bkG P (min (j + 1) P.1) q = if (sm_backF (P.2.1 j) (P.2.2 j) q).1 = true then sm_bkG P (min j P.1) (sm_backF (P.2.1 j) (P.2.2 j) q).2 else (false, (sm_backF (P.2.1 j) (P.2.2 j) q).2) := by
  rw [show min (j + 1) P.1 = j + 1 by omega, show min j P.1 = j by omega]
  rfl
def sm_any (T : sm_Tg) : Bool := if 0 < sm_cnG (fun i => sm_kd T i 2) 40 0 0 then true else false
def sm_asG (T : sm_Tg) : Nat → Nat → Int32 → Int32
  | 0, _, c => c
  | n + 1, i, c => sm_asG T n (i + 1) (if sm_kd T i 1 = true then c + T.2.1 i else c)
theorem sm_asS {T : sm_Tg} {n i : Nat} {c : Int32} (h : i < n) : sm_asG T (n - i) i c = sm_asG T (n - (i + 1)) (i + 1) (if sm_kd T i 1 = true then c + T.2.1 i else c) := by
  obtain ⟨k, hk⟩ : ∃ k, n - i = k + 1 := ⟨n - i - 1, by omega⟩
  rw [hk, show n - (i + 1) = k by omega]
  rfl
def sm_full (L : sm_Lg) : Bool := if L.1 < 120 then false else true
variable {l : Launch} (D : sm_G) (ad : Nat → Nat) (P : sm_Sp) (S : sm_Rw) (T : sm_Tg) (L M : sm_Lg) (C : sm_Pt) (cp : sm_Cp) (ph : Int32) (fo ne no rc : Nat) (wr : va_W)
set_option maxHeartbeats 1000000 in
set_option maxRecDepth 100000 in
theorem c_X4_turn (hP6 : P.1 ≤ 6) : sm_MC l yX4_turn cX4_turn 3 (some .boolean) 1 23 [.ref (ad 1), .ref (ad 32)] D (sm_w6 D ad P S T L M C cp ph fo ne no rc wr) (fun w => w = sm_w6 D ad P S T L M C ((sm_tr P cp).2) ph fo ne no rc wr) (some (.int (sm_b ((sm_tr P cp).1)))) := by
  refine sm_met (own := RX4) (by decide) rfl (Nat.le_of_ble_eq_true rfl) ?_
  intro p e s m below meth c ls hC hv hl
  obtain ⟨hx, hb, hml, hr, hown, hlk, hts⟩ := id hC
  obtain ⟨⟨hP, hK⟩, hD, hZ⟩ := hv
  have hS : va_S (sm_ad (sm_w6 D ad P S T L M C cp ph fo ne no rc wr)) s.heap s.heap [] := va_S.rf
  have hl : lv_has ls 3 [(0, .ref (ad 1)), (1, .ref (ad 32))] := hl
  refine lv_iconst (v := 0) hx hb dX4_turn_0 (by decide) ?_
  refine lv_istore_n (lv' := [(2, .int 0), (0, .ref (ad 1)), (1, .ref (ad 32))]) hx hb dX4_turn_1 rfl hl (by decide) rfl (fun ls hl => ?_)
  suffices K : ∀ (n : Nat) (i : Nat) (q : sm_Cp) (H : Heap) (locs : List Loc) (ls : Array Slot), P.1 - i = n → (i ≤ P.1) → (sm_trG P (P.1 - i) i q = sm_tr P cp) → va_P D.1 sm_cl (sm_w6 D ad P S T L M C q ph fo ne no rc wr) H → va_D (sm_ad (sm_w6 D ad P S T L M C cp ph fo ne no rc wr)) (sm_w6 D ad P S T L M C q ph fo ne no rc wr) → va_S (sm_ad (sm_w6 D ad P S T L M C cp ph fo ne no rc wr)) s.heap H locs → lv_has ls 3 [(0, .ref (ad 1)), (1, .ref (ad 32)), (2, .int (nI i))] → W p l e ({ frames := 1, cells := 0, slots := 0, locals := 23 } : Room) s m ([.ref (ad 1), .ref (ad 32)] : List Value).toArray below meth c H locs 0 0 (MQ below (sm_Qc D (sm_w6 D ad P S T L M C cp ph fo ne no rc wr) (fun w => w = sm_w6 D ad P S T L M C ((sm_tr P cp).2) ph fo ne no rc wr) (some (.int (sm_b ((sm_tr P cp).1))))) ([.ref (ad 1), .ref (ad 32)] : List Value).toArray s 0 0 (sm_ad (sm_w6 D ad P S T L M C cp ph fo ne no rc wr))) (F0 m 2 ls []) from K _ 0 cp _ _ ls rfl (by omega) (rfl) hP hD hS (lv_sub hl [1, 2, 0] rfl)
  intro n
  induction n using Nat.strongRecOn with
  | ind n ih =>
    intro i q H locs ls hn hi hR hP hD hS hl
    refine lv_iload_n hx hb dX4_turn_2 rfl (lv_at hl 2 rfl) ?_
    refine lv_aload_n hx hb dX4_turn_3 rfl (lv_at hl 0 rfl) ?_
    refine sm_gt (ci := 4) (C := RX4) (T := TX4) (N := 3) hx hb hts inlX4 hown hK hP 1 rfl rfl 2 (by decide) wf_RX4_23 rfl dX4_turn_4 ?_
    refine lv_icmp_ge (tgt := 49) hx hb dX4_turn_7 (by decide) (fun c_1 => ?_) (fun c_1 => ?_)
    · have c_1 := sm_Nnl (a := i) (b := P.1) (sm_nl c_1) (by omega) (by omega)
      refine lv_aload_n hx hb dX4_turn_49 rfl (lv_at hl 1 rfl) ?_
      refine lv_sipush (v := 999) hx hb dX4_turn_50 (by decide) ?_
      refine sm_cVPr (rest := []) hC hK hP (c_X0_areBothWithin D ad P S T L M C q ph fo ne no rc wr 999) qyX0_areBothWithin wl_RX4_34 ⟨Nat.le_of_ble_eq_true rfl, Nat.le_of_ble_eq_true rfl⟩ 32 rfl rfl rfl hl.1 rfl (Nat.le_of_ble_eq_true rfl) dX4_turn_53 ⟨Nat.le_of_ble_eq_true rfl, Nat.le_of_ble_eq_true rfl⟩ ?_
      exact sm_retC hC hP hD hS (by rw [show P.1 - i = 0 by omega] at hR; rw [← hR]; try rfl) (sm_nb _) (by rw [show P.1 - i = 0 by omega] at hR; rw [← hR]; try rfl) dX4_turn_56
    · have c_1 := sm_Nlt (a := i) (b := P.1) (sm_nle c_1) (by omega) (by omega)
      refine lv_iload_n hx hb dX4_turn_10 rfl (lv_at hl 2 rfl) ?_
      refine lv_bipush (v := 6) hx hb dX4_turn_11 (by decide) ?_
      have h6 : i < 6 := by omega
      refine lv_icmp_ge (tgt := 49) hx hb dX4_turn_13 (by decide) (fun h => absurd h (Int32.not_le.mpr (sm_pNlt (a := i) (b := 6) h6 (by omega)))) (fun _ => ?_)
      refine lv_aload_n hx hb dX4_turn_16 rfl (lv_at hl 1 rfl) ?_
      refine lv_aload_n hx hb dX4_turn_17 rfl (lv_at hl 0 rfl) ?_
      refine sm_gt (ci := 4) (C := RX4) (T := TX4) (N := 3) hx hb hts inlX4 hown hK hP 1 rfl rfl 0 (by decide) wf_RX4_9 rfl dX4_turn_18 ?_
      refine lv_iload_n hx hb dX4_turn_21 rfl (lv_at hl 2 rfl) ?_
      refine sm_cld hx hb hK hP 2 rfl i rfl (by omega) (by decide) dX4_turn_22 ?_
      refine lv_aload_n hx hb dX4_turn_23 rfl (lv_at hl 0 rfl) ?_
      refine sm_gt (ci := 4) (C := RX4) (T := TX4) (N := 3) hx hb hts inlX4 hown hK hP 1 rfl rfl 1 (by decide) wf_RX4_15 rfl dX4_turn_24 ?_
      refine lv_iload_n hx hb dX4_turn_27 rfl (lv_at hl 2 rfl) ?_
      refine sm_ild hx hb hK hP 3 rfl i rfl (by omega) (by decide) dX4_turn_28 ?_
      refine sm_cVC (rest := []) hC hK hP hD hS hZ (c_X0_step D ad P S T L M C q ph fo ne no rc wr (P.2.1 i) (P.2.2 i)) qyX0_step wl_RX4_27 ⟨Nat.le_of_ble_eq_true rfl, Nat.le_of_ble_eq_true rfl⟩ 32 rfl rfl rfl hl.1 rfl (Nat.le_of_ble_eq_true rfl) dX4_turn_29 ⟨Nat.le_of_ble_eq_true rfl, Nat.le_of_ble_eq_true rfl⟩ (fun w1 H locs hB hP hD hS => ?_)
      subst hB
      refine lv_aload_n hx hb dX4_turn_32 rfl (lv_at hl 1 rfl) ?_
      refine lv_ldc hx hb hown (hts _ wk_RX4_33) dX4_turn_33 ?_
      refine sm_cVPr (rest := []) hC hK hP (c_X0_areBothWithin D ad P S T L M C (sm_stepF (P.2.1 i) (P.2.2 i) q) ph fo ne no rc wr 99999) qyX0_areBothWithin wl_RX4_34 ⟨Nat.le_of_ble_eq_true rfl, Nat.le_of_ble_eq_true rfl⟩ 32 rfl rfl rfl hl.1 rfl (Nat.le_of_ble_eq_true rfl) dX4_turn_35 ⟨Nat.le_of_ble_eq_true rfl, Nat.le_of_ble_eq_true rfl⟩ ?_
      refine lv_if_ne (tgt := 43) hx hb dX4_turn_38 (by decide) (fun c_2 => ?_) (fun c_2 => ?_)
      · have c_2 := sm_b1 c_2
        refine lv_iinc (v := nI (i + 1)) (lv' := [(2, .int (nI (i + 1))), (0, .ref (ad 1)), (1, .ref (ad 32))]) hx hb dX4_turn_43 hl (k := 2) rfl (nI_1 i) (by decide) rfl (fun ls hl => ?_)
        refine lv_goto (tgt := 2) hx hb dX4_turn_46 (by decide) ?_
        exact ih _ (by omega) (i + 1) (sm_stepF (P.2.1 i) (P.2.2 i) q) _ _ ls rfl (by omega) (by rw [sm_trS (by omega), if_pos c_2] at hR; exact hR) hP hD hS (lv_sub hl [1, 2, 0] rfl)
      · have c_2 := sm_b0 c_2
        refine lv_iconst (v := 0) hx hb dX4_turn_41 (by decide) ?_
        exact sm_retC hC hP hD hS (by rw [sm_trS (by omega), if_neg (by rw [c_2]; decide)] at hR; rw [← hR]; try rfl) (by decide) (by rw [sm_trS (by omega), if_neg (by rw [c_2]; decide)] at hR; rw [← hR]; try rfl) dX4_turn_42

set_option maxHeartbeats 1000000 in
set_option maxRecDepth 100000 in
theorem c_X4_turnBack (hP6 : P.1 ≤ 6) : sm_MC l yX4_turnBack cX4_turnBack 3 (some .boolean) 1 23 [.ref (ad 1), .ref (ad 32)] D (sm_w6 D ad P S T L M C cp ph fo ne no rc wr) (fun w => w = sm_w6 D ad P S T L M C ((sm_bk P cp).2) ph fo ne no rc wr) (some (.int (sm_b ((sm_bk P cp).1)))) := by
  refine sm_met (own := RX4) (by decide) rfl (Nat.le_of_ble_eq_true rfl) ?_
  intro p e s m below meth c ls hC hv hl
  obtain ⟨hx, hb, hml, hr, hown, hlk, hts⟩ := id hC
  obtain ⟨⟨hP, hK⟩, hD, hZ⟩ := hv
  have hS : va_S (sm_ad (sm_w6 D ad P S T L M C cp ph fo ne no rc wr)) s.heap s.heap [] := va_S.rf
  have hl : lv_has ls 3 [(0, .ref (ad 1)), (1, .ref (ad 32))] := hl
  refine lv_iconst (v := 5) hx hb dX4_turnBack_0 (by decide) ?_
  refine lv_istore_n (lv' := [(2, .int 5), (0, .ref (ad 1)), (1, .ref (ad 32))]) hx hb dX4_turnBack_1 rfl hl (by decide) rfl (fun ls hl => ?_)
  rw [show (5 : Int32) = nI 6 + (-1) by decide] at hl
  suffices K : ∀ (n : Nat) (j : Nat) (q : sm_Cp) (H : Heap) (locs : List Loc) (ls : Array Slot), j = n → (j ≤ 6) → (sm_bkG P (min j P.1) q = sm_bk P cp) → va_P D.1 sm_cl (sm_w6 D ad P S T L M C q ph fo ne no rc wr) H → va_D (sm_ad (sm_w6 D ad P S T L M C cp ph fo ne no rc wr)) (sm_w6 D ad P S T L M C q ph fo ne no rc wr) → va_S (sm_ad (sm_w6 D ad P S T L M C cp ph fo ne no rc wr)) s.heap H locs → lv_has ls 3 [(0, .ref (ad 1)), (1, .ref (ad 32)), (2, .int (nI j + (-1)))] → W p l e ({ frames := 1, cells := 0, slots := 0, locals := 23 } : Room) s m ([.ref (ad 1), .ref (ad 32)] : List Value).toArray below meth c H locs 0 0 (MQ below (sm_Qc D (sm_w6 D ad P S T L M C cp ph fo ne no rc wr) (fun w => w = sm_w6 D ad P S T L M C ((sm_bk P cp).2) ph fo ne no rc wr) (some (.int (sm_b ((sm_bk P cp).1))))) ([.ref (ad 1), .ref (ad 32)] : List Value).toArray s 0 0 (sm_ad (sm_w6 D ad P S T L M C cp ph fo ne no rc wr))) (F0 m 2 ls []) from K _ 6 cp _ _ ls rfl (by omega) (by rw [Nat.min_eq_right hP6]; rfl) hP hD hS (lv_sub hl [1, 2, 0] rfl)
  intro n
  induction n using Nat.strongRecOn with
  | ind n ih =>
    intro j q H locs ls hn hj hR hP hD hS hl
    rcases j with _ | j
    · rw [show nI 0 + (-1) = (-1 : Int32) by decide] at hl
      refine lv_iload_n hx hb dX4_turnBack_2 rfl (lv_at hl 2 rfl) ?_
      refine lv_if_lt (tgt := 41) hx hb dX4_turnBack_3 (by decide) (fun _ => ?_) (fun h => absurd h (by decide))
      refine lv_aload_n hx hb dX4_turnBack_41 rfl (lv_at hl 1 rfl) ?_
      refine lv_bipush (v := 99) hx hb dX4_turnBack_42 (by decide) ?_
      refine sm_cVPr (rest := []) hC hK hP (c_X0_areBothWithin D ad P S T L M C q ph fo ne no rc wr 99) qyX0_areBothWithin wl_RX4_34 ⟨Nat.le_of_ble_eq_true rfl, Nat.le_of_ble_eq_true rfl⟩ 32 rfl rfl rfl hl.1 rfl (Nat.le_of_ble_eq_true rfl) dX4_turnBack_44 ⟨Nat.le_of_ble_eq_true rfl, Nat.le_of_ble_eq_true rfl⟩ ?_
      exact sm_retC hC hP hD hS (by rw [Nat.zero_min] at hR; rw [← hR]; try rfl) (sm_nb _) (by rw [Nat.zero_min] at hR; rw [← hR]; try rfl) dX4_turnBack_47
    · rw [pk_m1 j] at hl
      refine lv_iload_n hx hb dX4_turnBack_2 rfl (lv_at hl 2 rfl) ?_
      refine lv_if_lt (tgt := 41) hx hb dX4_turnBack_3 (by decide) (fun h => absurd h (fun z => absurd (sm_Nlt (a := j) (b := 0) z (by omega) (by omega)) (Nat.not_lt_zero _))) (fun _ => ?_)
      refine lv_iload_n hx hb dX4_turnBack_6 rfl (lv_at hl 2 rfl) ?_
      refine lv_aload_n hx hb dX4_turnBack_7 rfl (lv_at hl 0 rfl) ?_
      refine sm_gt (ci := 4) (C := RX4) (T := TX4) (N := 3) hx hb hts inlX4 hown hK hP 1 rfl rfl 2 (by decide) wf_RX4_23 rfl dX4_turnBack_8 ?_
      refine lv_icmp_ge (tgt := 35) hx hb dX4_turnBack_11 (by decide) (fun c_1 => ?_) (fun c_1 => ?_)
      · have c_1 := sm_Nnl (a := j) (b := P.1) (sm_nl c_1) (by omega) (by omega)
        refine lv_iinc (v := nI j + (-1)) (lv' := [(2, .int (nI j + (-1))), (0, .ref (ad 1)), (1, .ref (ad 32))]) hx hb dX4_turnBack_35 hl (k := 2) rfl (rfl) (by decide) rfl (fun ls hl => ?_)
        refine lv_goto (tgt := 2) hx hb dX4_turnBack_38 (by decide) ?_
        exact ih _ (by omega) j q _ _ ls rfl (by omega) (by rw [show min (j + 1) P.1 = min j P.1 by omega] at hR; exact hR) hP hD hS (lv_sub hl [1, 2, 0] rfl)
      · have c_1 := sm_Nlt (a := j) (b := P.1) (sm_nle c_1) (by omega) (by omega)
        refine lv_aload_n hx hb dX4_turnBack_14 rfl (lv_at hl 1 rfl) ?_
        refine lv_aload_n hx hb dX4_turnBack_15 rfl (lv_at hl 0 rfl) ?_
        refine sm_gt (ci := 4) (C := RX4) (T := TX4) (N := 3) hx hb hts inlX4 hown hK hP 1 rfl rfl 0 (by decide) wf_RX4_9 rfl dX4_turnBack_16 ?_
        refine lv_iload_n hx hb dX4_turnBack_19 rfl (lv_at hl 2 rfl) ?_
        refine sm_cld hx hb hK hP 2 rfl j rfl (by omega) (by decide) dX4_turnBack_20 ?_
        refine lv_aload_n hx hb dX4_turnBack_21 rfl (lv_at hl 0 rfl) ?_
        refine sm_gt (ci := 4) (C := RX4) (T := TX4) (N := 3) hx hb hts inlX4 hown hK hP 1 rfl rfl 1 (by decide) wf_RX4_15 rfl dX4_turnBack_22 ?_
        refine lv_iload_n hx hb dX4_turnBack_25 rfl (lv_at hl 2 rfl) ?_
        refine sm_ild hx hb hK hP 3 rfl j rfl (by omega) (by decide) dX4_turnBack_26 ?_
        refine sm_cVCr (rest := []) hC hK hP hD hS hZ (c_X0_stepBack D ad P S T L M C q ph fo ne no rc wr (P.2.1 j) (P.2.2 j)) qyX0_stepBack wl_RX4_38 ⟨Nat.le_of_ble_eq_true rfl, Nat.le_of_ble_eq_true rfl⟩ 32 rfl rfl rfl hl.1 rfl (Nat.le_of_ble_eq_true rfl) dX4_turnBack_27 ⟨Nat.le_of_ble_eq_true rfl, Nat.le_of_ble_eq_true rfl⟩ (fun w1 H locs hB hP hD hS => ?_)
        subst hB
        refine lv_if_ne (tgt := 35) hx hb dX4_turnBack_30 (by decide) (fun c_2 => ?_) (fun c_2 => ?_)
        · have c_2 := sm_b1 c_2
          refine lv_iinc (v := nI j + (-1)) (lv' := [(2, .int (nI j + (-1))), (0, .ref (ad 1)), (1, .ref (ad 32))]) hx hb dX4_turnBack_35 hl (k := 2) rfl (rfl) (by decide) rfl (fun ls hl => ?_)
          refine lv_goto (tgt := 2) hx hb dX4_turnBack_38 (by decide) ?_
          exact ih _ (by omega) j ((sm_backF (P.2.1 j) (P.2.2 j) q).2) _ _ ls rfl (by omega) (by rw [sm_bkS (by omega), if_pos c_2] at hR; exact hR) hP hD hS (lv_sub hl [1, 2, 0] rfl)
        · have c_2 := sm_b0 c_2
          refine lv_iconst (v := 0) hx hb dX4_turnBack_33 (by decide) ?_
          exact sm_retC hC hP hD hS (by rw [sm_bkS (by omega), if_neg (by rw [c_2]; decide)] at hR; rw [← hR]; try rfl) (by decide) (by rw [sm_bkS (by omega), if_neg (by rw [c_2]; decide)] at hR; rw [← hR]; try rfl) dX4_turnBack_34

set_option maxHeartbeats 1000000 in
set_option maxRecDepth 100000 in
theorem c_X5_isStamped (k : Nat) (hk : k < 40) : sm_MP l yX5_isStamped cX5_isStamped 2 (some .boolean) 1 21 [.ref (ad 8), .int (nI k)] D (sm_w6 D ad P S T L M C cp ph fo ne no rc wr) (some (.int (sm_b (sm_stmp T k)))) := by
  refine sm_met (own := RX5) (by decide) rfl (Nat.le_of_ble_eq_true rfl) ?_
  intro p e s m below meth c ls hC hv hl
  obtain ⟨hx, hb, hml, hr, hown, hlk, hts⟩ := id hC
  obtain ⟨hP, hK⟩ := hv
  have hl : lv_has ls 2 [(0, .ref (ad 8)), (1, .int (nI k))] := hl
  refine lv_iload_n hx hb dX5_isStamped_0 rfl (lv_at hl 1 rfl) ?_
  refine sm_cNPr (rest := []) hC hK hP (c_X6_isKey D ad P S T L M C cp ph fo ne no rc wr k (by omega)) qyX6_isKey (List.mem_of_getElem? (i := 1) rfl) ⟨Nat.le_of_ble_eq_true rfl, Nat.le_of_ble_eq_true rfl⟩ rfl hl.1 rfl (Nat.le_of_ble_eq_true rfl) dX5_isStamped_1 ⟨Nat.le_of_ble_eq_true rfl, Nat.le_of_ble_eq_true rfl⟩ ?_
  refine lv_if_eq (tgt := 20) hx hb dX5_isStamped_4 (by decide) (fun h => absurd h (by decide)) (fun _ => ?_)
  refine lv_aload_n hx hb dX5_isStamped_7 rfl (lv_at hl 0 rfl) ?_
  refine sm_gt (ci := 5) (C := RX5) (T := TX5) (N := 4) hx hb hts inlX5 hown hK hP 8 rfl rfl 0 (by decide) wf_RX5_9 rfl dX5_isStamped_8 ?_
  refine lv_iload_n hx hb dX5_isStamped_11 rfl (lv_at hl 1 rfl) ?_
  refine sm_ild hx hb hK hP 9 rfl k rfl (by omega) (by decide) dX5_isStamped_12 ?_
  refine lv_if_eq (tgt := 20) hx hb dX5_isStamped_13 (by decide) (fun c_1 => ?_) (fun c_1 => ?_)
  · have c_1_ := c_1
    refine lv_iconst (v := 0) hx hb dX5_isStamped_20 (by decide) ?_
    exact sm_retP hC (by first | rfl | (simp [sm_stmp, sm_b, c_1]; done) | (simp [sm_stmp, sm_b] at c_1; simp [sm_stmp, sm_b, c_1]; done) | (simp_all [sm_stmp, sm_b]; done)) (by decide) dX5_isStamped_21
  · have c_1_ := c_1
    refine lv_iconst (v := 1) hx hb dX5_isStamped_16 (by decide) ?_
    refine lv_goto (tgt := 21) hx hb dX5_isStamped_17 (by decide) ?_
    exact sm_retP hC (by first | rfl | (simp [sm_stmp, sm_b, c_1]; done) | (simp [sm_stmp, sm_b] at c_1; simp [sm_stmp, sm_b, c_1]; done) | (simp_all [sm_stmp, sm_b]; done)) (by decide) dX5_isStamped_21

set_option maxHeartbeats 1000000 in
set_option maxRecDepth 100000 in
theorem c_X5_stampOf (k : Nat) (hk : k < 40) : sm_MP l yX5_stampOf cX5_stampOf 2 (some .int) 1 21 [.ref (ad 8), .int (nI k)] D (sm_w6 D ad P S T L M C cp ph fo ne no rc wr) (some (.int (T.2.1 k))) := by
  refine sm_met (own := RX5) (by decide) rfl (Nat.le_of_ble_eq_true rfl) ?_
  intro p e s m below meth c ls hC hv hl
  obtain ⟨hx, hb, hml, hr, hown, hlk, hts⟩ := id hC
  obtain ⟨hP, hK⟩ := hv
  have hl : lv_has ls 2 [(0, .ref (ad 8)), (1, .int (nI k))] := hl
  refine lv_iload_n hx hb dX5_stampOf_0 rfl (lv_at hl 1 rfl) ?_
  refine sm_cNPr (rest := []) hC hK hP (c_X6_isKey D ad P S T L M C cp ph fo ne no rc wr k (by omega)) qyX6_isKey (List.mem_of_getElem? (i := 1) rfl) ⟨Nat.le_of_ble_eq_true rfl, Nat.le_of_ble_eq_true rfl⟩ rfl hl.1 rfl (Nat.le_of_ble_eq_true rfl) dX5_stampOf_1 ⟨Nat.le_of_ble_eq_true rfl, Nat.le_of_ble_eq_true rfl⟩ ?_
  refine lv_if_eq (tgt := 16) hx hb dX5_stampOf_4 (by decide) (fun h => absurd h (by decide)) (fun _ => ?_)
  refine lv_aload_n hx hb dX5_stampOf_7 rfl (lv_at hl 0 rfl) ?_
  refine sm_gt (ci := 5) (C := RX5) (T := TX5) (N := 4) hx hb hts inlX5 hown hK hP 8 rfl rfl 1 (by decide) wf_RX5_15 rfl dX5_stampOf_8 ?_
  refine lv_iload_n hx hb dX5_stampOf_11 rfl (lv_at hl 1 rfl) ?_
  refine sm_ild hx hb hK hP 10 rfl k rfl (by omega) (by decide) dX5_stampOf_12 ?_
  refine lv_goto (tgt := 17) hx hb dX5_stampOf_13 (by decide) ?_
  exact sm_retP hC rfl rfl dX5_stampOf_17

set_option maxHeartbeats 1000000 in
set_option maxRecDepth 100000 in
theorem c_X5_givesWay (k : Nat) (hk : k < 40) (x : Int32) : sm_MP l yX5_givesWay cX5_givesWay 3 (some .boolean) 2 42 [.ref (ad 8), .int (nI k), .int x] D (sm_w6 D ad P S T L M C cp ph fo ne no rc wr) (some (.int (sm_b (sm_later T k x)))) := by
  refine sm_met (own := RX5) (by decide) rfl (Nat.le_of_ble_eq_true rfl) ?_
  intro p e s m below meth c ls hC hv hl
  obtain ⟨hx, hb, hml, hr, hown, hlk, hts⟩ := id hC
  obtain ⟨hP, hK⟩ := hv
  have hl : lv_has ls 3 [(0, .ref (ad 8)), (1, .int (nI k)), (2, .int x)] := hl
  refine lv_aload_n hx hb dX5_givesWay_0 rfl (lv_at hl 0 rfl) ?_
  refine lv_iload_n hx hb dX5_givesWay_1 rfl (lv_at hl 1 rfl) ?_
  refine sm_cVPr (rest := []) hC hK hP (c_X5_isStamped D ad P S T L M C cp ph fo ne no rc wr k (by omega)) qyX5_isStamped wl_RX5_28 ⟨Nat.le_of_ble_eq_true rfl, Nat.le_of_ble_eq_true rfl⟩ 8 rfl rfl rfl hl.1 rfl (Nat.le_of_ble_eq_true rfl) dX5_givesWay_2 ⟨Nat.le_of_ble_eq_true rfl, Nat.le_of_ble_eq_true rfl⟩ ?_
  refine lv_if_eq (tgt := 17) hx hb dX5_givesWay_5 (by decide) (fun c_1 => ?_) (fun c_1 => ?_)
  · have c_1 := sm_b0 c_1
    refine lv_iconst (v := 1) hx hb dX5_givesWay_17 (by decide) ?_
    refine lv_goto (tgt := 22) hx hb dX5_givesWay_18 (by decide) ?_
    exact sm_retP hC (by first | rfl | (simp [sm_later, sm_b, c_1]; done) | (simp [sm_later, sm_b] at c_1; simp [sm_later, sm_b, c_1]; done) | (simp_all [sm_later, sm_b]; done)) (by decide) dX5_givesWay_22
  · have c_1 := sm_b1 c_1
    refine lv_aload_n hx hb dX5_givesWay_8 rfl (lv_at hl 0 rfl) ?_
    refine lv_iload_n hx hb dX5_givesWay_9 rfl (lv_at hl 1 rfl) ?_
    refine sm_cVPr (rest := []) hC hK hP (c_X5_stampOf D ad P S T L M C cp ph fo ne no rc wr k (by omega)) qyX5_stampOf wl_RX5_31 ⟨Nat.le_of_ble_eq_true rfl, Nat.le_of_ble_eq_true rfl⟩ 8 rfl rfl rfl hl.1 rfl (Nat.le_of_ble_eq_true rfl) dX5_givesWay_10 ⟨Nat.le_of_ble_eq_true rfl, Nat.le_of_ble_eq_true rfl⟩ ?_
    refine lv_iload_n hx hb dX5_givesWay_13 rfl (lv_at hl 2 rfl) ?_
    refine lv_icmp_ge (tgt := 21) hx hb dX5_givesWay_14 (by decide) (fun c_2 => ?_) (fun c_2 => ?_)
    · have c_2 := sm_nl c_2
      refine lv_iconst (v := 0) hx hb dX5_givesWay_21 (by decide) ?_
      exact sm_retP hC (by first | rfl | (simp [sm_later, sm_b, c_1, c_2]; done) | (simp [sm_later, sm_b] at c_1 c_2; simp [sm_later, sm_b, c_1, c_2]; done) | (simp_all [sm_later, sm_b]; done)) (by decide) dX5_givesWay_22
    · have c_2 := sm_nle c_2
      refine lv_iconst (v := 1) hx hb dX5_givesWay_17 (by decide) ?_
      refine lv_goto (tgt := 22) hx hb dX5_givesWay_18 (by decide) ?_
      exact sm_retP hC (by first | rfl | (simp [sm_later, sm_b, c_1, c_2]; done) | (simp [sm_later, sm_b] at c_1 c_2; simp [sm_later, sm_b, c_1, c_2]; done) | (simp_all [sm_later, sm_b]; done)) (by decide) dX5_givesWay_22

set_option maxHeartbeats 1000000 in
set_option maxRecDepth 100000 in
theorem c_X5_isAside (k : Nat) (hk : k < 40) : sm_MP l yX5_isAside cX5_isAside 2 (some .boolean) 1 21 [.ref (ad 8), .int (nI k)] D (sm_w6 D ad P S T L M C cp ph fo ne no rc wr) (some (.int (sm_b (sm_kd T k 2)))) := by
  refine sm_met (own := RX5) (by decide) rfl (Nat.le_of_ble_eq_true rfl) ?_
  intro p e s m below meth c ls hC hv hl
  obtain ⟨hx, hb, hml, hr, hown, hlk, hts⟩ := id hC
  obtain ⟨hP, hK⟩ := hv
  have hl : lv_has ls 2 [(0, .ref (ad 8)), (1, .int (nI k))] := hl
  refine lv_iload_n hx hb dX5_isAside_0 rfl (lv_at hl 1 rfl) ?_
  refine sm_cNPr (rest := []) hC hK hP (c_X6_isKey D ad P S T L M C cp ph fo ne no rc wr k (by omega)) qyX6_isKey (List.mem_of_getElem? (i := 1) rfl) ⟨Nat.le_of_ble_eq_true rfl, Nat.le_of_ble_eq_true rfl⟩ rfl hl.1 rfl (Nat.le_of_ble_eq_true rfl) dX5_isAside_1 ⟨Nat.le_of_ble_eq_true rfl, Nat.le_of_ble_eq_true rfl⟩ ?_
  refine lv_if_eq (tgt := 21) hx hb dX5_isAside_4 (by decide) (fun h => absurd h (by decide)) (fun _ => ?_)
  refine lv_aload_n hx hb dX5_isAside_7 rfl (lv_at hl 0 rfl) ?_
  refine sm_gt (ci := 5) (C := RX5) (T := TX5) (N := 4) hx hb hts inlX5 hown hK hP 8 rfl rfl 0 (by decide) wf_RX5_9 rfl dX5_isAside_8 ?_
  refine lv_iload_n hx hb dX5_isAside_11 rfl (lv_at hl 1 rfl) ?_
  refine sm_ild hx hb hK hP 9 rfl k rfl (by omega) (by decide) dX5_isAside_12 ?_
  refine lv_iconst (v := 2) hx hb dX5_isAside_13 (by decide) ?_
  refine lv_icmp_ne (tgt := 21) hx hb dX5_isAside_14 (by decide) (fun c_1 => ?_) (fun c_1 => ?_)
  · have c_1_ := c_1
    refine lv_iconst (v := 0) hx hb dX5_isAside_21 (by decide) ?_
    exact sm_retP hC (by first | rfl | (simp [sm_kd, sm_b, c_1]; done) | (simp [sm_kd, sm_b] at c_1; simp [sm_kd, sm_b, c_1]; done) | (simp_all [sm_kd, sm_b]; done)) (by decide) dX5_isAside_22
  · have c_1_ := c_1
    refine lv_iconst (v := 1) hx hb dX5_isAside_17 (by decide) ?_
    refine lv_goto (tgt := 22) hx hb dX5_isAside_18 (by decide) ?_
    exact sm_retP hC (by first | rfl | (simp [sm_kd, sm_b, c_1]; done) | (simp [sm_kd, sm_b] at c_1; simp [sm_kd, sm_b, c_1]; done) | (simp_all [sm_kd, sm_b]; done)) (by decide) dX5_isAside_22

set_option maxHeartbeats 1000000 in
set_option maxRecDepth 100000 in
theorem c_X5_hasEntry (k : Nat) (hk : k < 40) : sm_MP l yX5_hasEntry cX5_hasEntry 2 (some .boolean) 1 21 [.ref (ad 8), .int (nI k)] D (sm_w6 D ad P S T L M C cp ph fo ne no rc wr) (some (.int (sm_b (sm_kd T k 1)))) := by
  refine sm_met (own := RX5) (by decide) rfl (Nat.le_of_ble_eq_true rfl) ?_
  intro p e s m below meth c ls hC hv hl
  obtain ⟨hx, hb, hml, hr, hown, hlk, hts⟩ := id hC
  obtain ⟨hP, hK⟩ := hv
  have hl : lv_has ls 2 [(0, .ref (ad 8)), (1, .int (nI k))] := hl
  refine lv_iload_n hx hb dX5_hasEntry_0 rfl (lv_at hl 1 rfl) ?_
  refine sm_cNPr (rest := []) hC hK hP (c_X6_isKey D ad P S T L M C cp ph fo ne no rc wr k (by omega)) qyX6_isKey (List.mem_of_getElem? (i := 1) rfl) ⟨Nat.le_of_ble_eq_true rfl, Nat.le_of_ble_eq_true rfl⟩ rfl hl.1 rfl (Nat.le_of_ble_eq_true rfl) dX5_hasEntry_1 ⟨Nat.le_of_ble_eq_true rfl, Nat.le_of_ble_eq_true rfl⟩ ?_
  refine lv_if_eq (tgt := 21) hx hb dX5_hasEntry_4 (by decide) (fun h => absurd h (by decide)) (fun _ => ?_)
  refine lv_aload_n hx hb dX5_hasEntry_7 rfl (lv_at hl 0 rfl) ?_
  refine sm_gt (ci := 5) (C := RX5) (T := TX5) (N := 4) hx hb hts inlX5 hown hK hP 8 rfl rfl 0 (by decide) wf_RX5_9 rfl dX5_hasEntry_8 ?_
  refine lv_iload_n hx hb dX5_hasEntry_11 rfl (lv_at hl 1 rfl) ?_
  refine sm_ild hx hb hK hP 9 rfl k rfl (by omega) (by decide) dX5_hasEntry_12 ?_
  refine lv_iconst (v := 1) hx hb dX5_hasEntry_13 (by decide) ?_
  refine lv_icmp_ne (tgt := 21) hx hb dX5_hasEntry_14 (by decide) (fun c_1 => ?_) (fun c_1 => ?_)
  · have c_1_ := c_1
    refine lv_iconst (v := 0) hx hb dX5_hasEntry_21 (by decide) ?_
    exact sm_retP hC (by first | rfl | (simp [sm_kd, sm_b, c_1]; done) | (simp [sm_kd, sm_b] at c_1; simp [sm_kd, sm_b, c_1]; done) | (simp_all [sm_kd, sm_b]; done)) (by decide) dX5_hasEntry_22
  · have c_1_ := c_1
    refine lv_iconst (v := 1) hx hb dX5_hasEntry_17 (by decide) ?_
    refine lv_goto (tgt := 22) hx hb dX5_hasEntry_18 (by decide) ?_
    exact sm_retP hC (by first | rfl | (simp [sm_kd, sm_b, c_1]; done) | (simp [sm_kd, sm_b] at c_1; simp [sm_kd, sm_b, c_1]; done) | (simp_all [sm_kd, sm_b]; done)) (by decide) dX5_hasEntry_22

set_option maxHeartbeats 1000000 in
set_option maxRecDepth 100000 in
theorem c_X5_count (x : Int32) : sm_MP l yX5_count cX5_count 4 (some .int) 0 0 [.ref (ad 8), .int x] D (sm_w6 D ad P S T L M C cp ph fo ne no rc wr) (some (.int (nI (sm_cnG (fun i => sm_kd T i x) 40 0 0)))) := by
  refine sm_met (own := RX5) (by decide) rfl (Nat.le_of_ble_eq_true rfl) ?_
  intro p e s m below meth c ls hC hv hl
  obtain ⟨hx, hb, hml, hr, hown, hlk, hts⟩ := id hC
  obtain ⟨hP, hK⟩ := hv
  have hl : lv_has ls 4 [(0, .ref (ad 8)), (1, .int x)] := hl
  refine lv_iconst (v := 0) hx hb dX5_count_0 (by decide) ?_
  refine lv_istore_n (lv' := [(2, .int 0), (0, .ref (ad 8)), (1, .int x)]) hx hb dX5_count_1 rfl hl (by decide) rfl (fun ls hl => ?_)
  refine lv_iconst (v := 0) hx hb dX5_count_2 (by decide) ?_
  refine lv_istore_n (lv' := [(3, .int 0), (2, .int 0), (0, .ref (ad 8)), (1, .int x)]) hx hb dX5_count_3 rfl hl (by decide) rfl (fun ls hl => ?_)
  suffices K : ∀ (n : Nat) (i : Nat) (q : Nat) (ls : Array Slot), 40 - i = n → (i ≤ 40) → (sm_cnG (fun i => sm_kd T i x) (40 - i) i q = sm_cnG (fun i => sm_kd T i x) 40 0 0) → lv_has ls 4 [(0, .ref (ad 8)), (1, .int x), (2, .int (nI q)), (3, .int (nI i))] → W p l e ({ frames := 0, cells := 0, slots := 0, locals := 0 } : Room) s m ([.ref (ad 8), .int x] : List Value).toArray below meth c s.heap [] 0 0 (MQ below (sm_Qp (some (.int (nI (sm_cnG (fun i => sm_kd T i x) 40 0 0))))) ([.ref (ad 8), .int x] : List Value).toArray s 0 0 (fun _ => False)) (F0 m 4 ls []) from K _ 0 0 ls rfl (by omega) (rfl) (lv_sub hl [2, 3, 1, 0] rfl)
  intro n
  induction n using Nat.strongRecOn with
  | ind n ih =>
    intro i q ls hn hi hR hl
    refine lv_iload_n hx hb dX5_count_4 rfl (lv_at hl 3 rfl) ?_
    refine lv_bipush (v := 40) hx hb dX5_count_5 (by decide) ?_
    refine lv_icmp_ge (tgt := 29) hx hb dX5_count_7 (by decide) (fun c_1 => ?_) (fun c_1 => ?_)
    · have c_1 := sm_Nnl (a := i) (b := 40) (sm_nl c_1) (by omega) (by omega)
      refine lv_iload_n hx hb dX5_count_29 rfl (lv_at hl 2 rfl) ?_
      exact sm_retP hC (by have e : i = 40 := (by omega); subst e; rw [← hR]; try rfl) rfl dX5_count_30
    · have c_1 := sm_Nlt (a := i) (b := 40) (sm_nle c_1) (by omega) (by omega)
      refine lv_aload_n hx hb dX5_count_10 rfl (lv_at hl 0 rfl) ?_
      refine sm_gt (ci := 5) (C := RX5) (T := TX5) (N := 4) hx hb hts inlX5 hown hK hP 8 rfl rfl 0 (by decide) wf_RX5_9 rfl dX5_count_11 ?_
      refine lv_iload_n hx hb dX5_count_14 rfl (lv_at hl 3 rfl) ?_
      refine sm_ild hx hb hK hP 9 rfl i rfl (by omega) (by decide) dX5_count_15 ?_
      refine lv_iload_n hx hb dX5_count_16 rfl (lv_at hl 1 rfl) ?_
      refine lv_icmp_ne (tgt := 23) hx hb dX5_count_17 (by decide) (fun c_2 => ?_) (fun c_2 => ?_)
      · have c_2_ := c_2
        refine lv_iinc (v := nI (i + 1)) (lv' := [(3, .int (nI (i + 1))), (0, .ref (ad 8)), (1, .int x), (2, .int (nI q))]) hx hb dX5_count_23 hl (k := 3) rfl (nI_1 i) (by decide) rfl (fun ls hl => ?_)
        refine lv_goto (tgt := 4) hx hb dX5_count_26 (by decide) ?_
        exact ih _ (by omega) (i + 1) q ls rfl (by omega) (by rw [sm_cnS (by omega), if_neg (by simp [sm_kd, c_2])] at hR; exact hR) (lv_sub hl [1, 2, 3, 0] rfl)
      · have c_2_ := c_2
        refine lv_iinc (v := nI (q + 1)) (lv' := [(2, .int (nI (q + 1))), (0, .ref (ad 8)), (1, .int x), (3, .int (nI i))]) hx hb dX5_count_20 hl (k := 2) rfl (nI_1 q) (by decide) rfl (fun ls hl => ?_)
        refine lv_iinc (v := nI (i + 1)) (lv' := [(3, .int (nI (i + 1))), (2, .int (nI (q + 1))), (0, .ref (ad 8)), (1, .int x)]) hx hb dX5_count_23 hl (k := 3) rfl (nI_1 i) (by decide) rfl (fun ls hl => ?_)
        refine lv_goto (tgt := 4) hx hb dX5_count_26 (by decide) ?_
        exact ih _ (by omega) (i + 1) (q + 1) ls rfl (by omega) (by rw [sm_cnS (by omega), if_pos (by simp [sm_kd, c_2])] at hR; exact hR) (lv_sub hl [2, 3, 1, 0] rfl)

set_option maxHeartbeats 1000000 in
set_option maxRecDepth 100000 in
theorem c_X5_isAnyAside  : sm_MP l yX5_isAnyAside cX5_isAnyAside 1 (some .boolean) 1 23 [.ref (ad 8)] D (sm_w6 D ad P S T L M C cp ph fo ne no rc wr) (some (.int (sm_b (sm_any T)))) := by
  refine sm_met (own := RX5) (by decide) rfl (Nat.le_of_ble_eq_true rfl) ?_
  intro p e s m below meth c ls hC hv hl
  obtain ⟨hx, hb, hml, hr, hown, hlk, hts⟩ := id hC
  obtain ⟨hP, hK⟩ := hv
  have hl : lv_has ls 1 [(0, .ref (ad 8))] := hl
  have hcn : sm_cnG (fun i => sm_kd T i 2) 40 0 0 ≤ 40 + 0 := sm_cnle _ _ _ _
  refine lv_aload_n hx hb dX5_isAnyAside_0 rfl (lv_at hl 0 rfl) ?_
  refine lv_iconst (v := 2) hx hb dX5_isAnyAside_1 (by decide) ?_
  refine sm_cVPr (rest := []) hC hK hP (c_X5_count D ad P S T L M C cp ph fo ne no rc wr 2) qyX5_count wl_RX5_35 ⟨Nat.le_of_ble_eq_true rfl, Nat.le_of_ble_eq_true rfl⟩ 8 rfl rfl rfl hl.1 rfl (Nat.le_of_ble_eq_true rfl) dX5_isAnyAside_2 ⟨Nat.le_of_ble_eq_true rfl, Nat.le_of_ble_eq_true rfl⟩ ?_
  refine lv_if_le (tgt := 12) hx hb dX5_isAnyAside_5 (by decide) (fun c_1 => ?_) (fun c_1 => ?_)
  · have c_1 := sm_Nnl (a := 0) (b := sm_cnG (fun i => sm_kd T i 2) 40 0 0) (sm_nl c_1) (by omega) (by omega)
    refine lv_iconst (v := 0) hx hb dX5_isAnyAside_12 (by decide) ?_
    exact sm_retP hC (by rw [sm_any]; first | rw [if_pos c_1]; rfl | rw [if_neg c_1]; rfl) (by decide) dX5_isAnyAside_13
  · have c_1 := sm_Nlt (a := 0) (b := sm_cnG (fun i => sm_kd T i 2) 40 0 0) (sm_nle c_1) (by omega) (by omega)
    refine lv_iconst (v := 1) hx hb dX5_isAnyAside_8 (by decide) ?_
    refine lv_goto (tgt := 13) hx hb dX5_isAnyAside_9 (by decide) ?_
    exact sm_retP hC (by rw [sm_any]; first | rw [if_pos c_1]; rfl | rw [if_neg c_1]; rfl) (by decide) dX5_isAnyAside_13

set_option maxHeartbeats 1000000 in
set_option maxRecDepth 100000 in
theorem c_X5_countEntries  : sm_MP l yX5_countEntries cX5_countEntries 1 (some .int) 1 23 [.ref (ad 8)] D (sm_w6 D ad P S T L M C cp ph fo ne no rc wr) (some (.int (nI (sm_cnG (fun i => sm_kd T i 1) 40 0 0)))) := by
  refine sm_met (own := RX5) (by decide) rfl (Nat.le_of_ble_eq_true rfl) ?_
  intro p e s m below meth c ls hC hv hl
  obtain ⟨hx, hb, hml, hr, hown, hlk, hts⟩ := id hC
  obtain ⟨hP, hK⟩ := hv
  have hl : lv_has ls 1 [(0, .ref (ad 8))] := hl
  refine lv_aload_n hx hb dX5_countEntries_0 rfl (lv_at hl 0 rfl) ?_
  refine lv_iconst (v := 1) hx hb dX5_countEntries_1 (by decide) ?_
  refine sm_cVPr (rest := []) hC hK hP (c_X5_count D ad P S T L M C cp ph fo ne no rc wr 1) qyX5_count wl_RX5_35 ⟨Nat.le_of_ble_eq_true rfl, Nat.le_of_ble_eq_true rfl⟩ 8 rfl rfl rfl hl.1 rfl (Nat.le_of_ble_eq_true rfl) dX5_countEntries_2 ⟨Nat.le_of_ble_eq_true rfl, Nat.le_of_ble_eq_true rfl⟩ ?_
  exact sm_retP hC rfl rfl dX5_countEntries_5

set_option maxHeartbeats 1000000 in
set_option maxRecDepth 100000 in
theorem c_X5_number (k : Nat) (hk : k < 40) (z : Bool) : sm_MP l yX5_number cX5_number 3 (some .int) 1 21 [.ref (ad 8), .int (nI k), .int (sm_b z)] D (sm_w6 D ad P S T L M C cp ph fo ne no rc wr) (some (.int (sm_pk z (T.2.2.1 k, T.2.2.2 k)))) := by
  refine sm_met (own := RX5) (by decide) rfl (Nat.le_of_ble_eq_true rfl) ?_
  intro p e s m below meth c ls hC hv hl
  obtain ⟨hx, hb, hml, hr, hown, hlk, hts⟩ := id hC
  obtain ⟨hP, hK⟩ := hv
  have hl : lv_has ls 3 [(0, .ref (ad 8)), (1, .int (nI k)), (2, .int (sm_b z))] := hl
  refine lv_iload_n hx hb dX5_number_0 rfl (lv_at hl 1 rfl) ?_
  refine sm_cNPr (rest := []) hC hK hP (c_X6_isKey D ad P S T L M C cp ph fo ne no rc wr k (by omega)) qyX6_isKey (List.mem_of_getElem? (i := 1) rfl) ⟨Nat.le_of_ble_eq_true rfl, Nat.le_of_ble_eq_true rfl⟩ rfl hl.1 rfl (Nat.le_of_ble_eq_true rfl) dX5_number_1 ⟨Nat.le_of_ble_eq_true rfl, Nat.le_of_ble_eq_true rfl⟩ ?_
  refine lv_if_ne (tgt := 9) hx hb dX5_number_4 (by decide) (fun _ => ?_) (fun h => absurd h (by decide))
  refine lv_iload_n hx hb dX5_number_9 rfl (lv_at hl 2 rfl) ?_
  refine lv_if_eq (tgt := 22) hx hb dX5_number_10 (by decide) (fun c_1 => ?_) (fun c_1 => ?_)
  · have c_1 := sm_b0 c_1
    refine lv_aload_n hx hb dX5_number_22 rfl (lv_at hl 0 rfl) ?_
    refine sm_gt (ci := 5) (C := RX5) (T := TX5) (N := 4) hx hb hts inlX5 hown hK hP 8 rfl rfl 2 (by decide) wf_RX5_18 rfl dX5_number_23 ?_
    refine lv_iload_n hx hb dX5_number_26 rfl (lv_at hl 1 rfl) ?_
    refine sm_ild hx hb hK hP 11 rfl k rfl (by omega) (by decide) dX5_number_27 ?_
    exact sm_retP hC (by first | rfl | (simp [sm_pk, c_1]; done) | (simp [sm_pk] at c_1; simp [sm_pk, c_1]; done) | (simp_all [sm_pk]; done)) rfl dX5_number_28
  · have c_1 := sm_b1 c_1
    refine lv_aload_n hx hb dX5_number_13 rfl (lv_at hl 0 rfl) ?_
    refine sm_gt (ci := 5) (C := RX5) (T := TX5) (N := 4) hx hb hts inlX5 hown hK hP 8 rfl rfl 3 (by decide) wf_RX5_21 rfl dX5_number_14 ?_
    refine lv_iload_n hx hb dX5_number_17 rfl (lv_at hl 1 rfl) ?_
    refine sm_ild hx hb hK hP 12 rfl k rfl (by omega) (by decide) dX5_number_18 ?_
    refine lv_goto (tgt := 28) hx hb dX5_number_19 (by decide) ?_
    exact sm_retP hC (by first | rfl | (simp [sm_pk, c_1]; done) | (simp [sm_pk] at c_1; simp [sm_pk, c_1]; done) | (simp_all [sm_pk]; done)) rfl dX5_number_28

set_option maxHeartbeats 1000000 in
set_option maxRecDepth 100000 in
theorem c_X5_addStamps  : sm_MP l yX5_addStamps cX5_addStamps 3 (some .int) 0 0 [.ref (ad 8)] D (sm_w6 D ad P S T L M C cp ph fo ne no rc wr) (some (.int (sm_asG T 40 0 0))) := by
  refine sm_met (own := RX5) (by decide) rfl (Nat.le_of_ble_eq_true rfl) ?_
  intro p e s m below meth c ls hC hv hl
  obtain ⟨hx, hb, hml, hr, hown, hlk, hts⟩ := id hC
  obtain ⟨hP, hK⟩ := hv
  have hl : lv_has ls 3 [(0, .ref (ad 8))] := hl
  refine lv_iconst (v := 0) hx hb dX5_addStamps_0 (by decide) ?_
  refine lv_istore_n (lv' := [(1, .int 0), (0, .ref (ad 8))]) hx hb dX5_addStamps_1 rfl hl (by decide) rfl (fun ls hl => ?_)
  refine lv_iconst (v := 0) hx hb dX5_addStamps_2 (by decide) ?_
  refine lv_istore_n (lv' := [(2, .int 0), (1, .int 0), (0, .ref (ad 8))]) hx hb dX5_addStamps_3 rfl hl (by decide) rfl (fun ls hl => ?_)
  suffices K : ∀ (n : Nat) (i : Nat) (q : Int32) (ls : Array Slot), 40 - i = n → (i ≤ 40) → (sm_asG T (40 - i) i q = sm_asG T 40 0 0) → lv_has ls 3 [(0, .ref (ad 8)), (1, .int q), (2, .int (nI i))] → W p l e ({ frames := 0, cells := 0, slots := 0, locals := 0 } : Room) s m ([.ref (ad 8)] : List Value).toArray below meth c s.heap [] 0 0 (MQ below (sm_Qp (some (.int (sm_asG T 40 0 0)))) ([.ref (ad 8)] : List Value).toArray s 0 0 (fun _ => False)) (F0 m 4 ls []) from K _ 0 0 ls rfl (by omega) (rfl) (lv_sub hl [2, 1, 0] rfl)
  intro n
  induction n using Nat.strongRecOn with
  | ind n ih =>
    intro i q ls hn hi hR hl
    refine lv_iload_n hx hb dX5_addStamps_4 rfl (lv_at hl 2 rfl) ?_
    refine lv_bipush (v := 40) hx hb dX5_addStamps_5 (by decide) ?_
    refine lv_icmp_ge (tgt := 35) hx hb dX5_addStamps_7 (by decide) (fun c_1 => ?_) (fun c_1 => ?_)
    · have c_1 := sm_Nnl (a := i) (b := 40) (sm_nl c_1) (by omega) (by omega)
      refine lv_iload_n hx hb dX5_addStamps_35 rfl (lv_at hl 1 rfl) ?_
      exact sm_retP hC (by have e : i = 40 := (by omega); subst e; rw [← hR]; try rfl) rfl dX5_addStamps_36
    · have c_1 := sm_Nlt (a := i) (b := 40) (sm_nle c_1) (by omega) (by omega)
      refine lv_aload_n hx hb dX5_addStamps_10 rfl (lv_at hl 0 rfl) ?_
      refine sm_gt (ci := 5) (C := RX5) (T := TX5) (N := 4) hx hb hts inlX5 hown hK hP 8 rfl rfl 0 (by decide) wf_RX5_9 rfl dX5_addStamps_11 ?_
      refine lv_iload_n hx hb dX5_addStamps_14 rfl (lv_at hl 2 rfl) ?_
      refine sm_ild hx hb hK hP 9 rfl i rfl (by omega) (by decide) dX5_addStamps_15 ?_
      refine lv_iconst (v := 1) hx hb dX5_addStamps_16 (by decide) ?_
      refine lv_icmp_ne (tgt := 29) hx hb dX5_addStamps_17 (by decide) (fun c_2 => ?_) (fun c_2 => ?_)
      · have c_2_ := c_2
        refine lv_iinc (v := nI (i + 1)) (lv' := [(2, .int (nI (i + 1))), (0, .ref (ad 8)), (1, .int q)]) hx hb dX5_addStamps_29 hl (k := 2) rfl (nI_1 i) (by decide) rfl (fun ls hl => ?_)
        refine lv_goto (tgt := 4) hx hb dX5_addStamps_32 (by decide) ?_
        exact ih _ (by omega) (i + 1) q ls rfl (by omega) (by rw [sm_asS (by omega), if_neg (by simp [sm_kd, c_2])] at hR; exact hR) (lv_sub hl [1, 2, 0] rfl)
      · have c_2_ := c_2
        refine lv_iload_n hx hb dX5_addStamps_20 rfl (lv_at hl 1 rfl) ?_
        refine lv_aload_n hx hb dX5_addStamps_21 rfl (lv_at hl 0 rfl) ?_
        refine sm_gt (ci := 5) (C := RX5) (T := TX5) (N := 4) hx hb hts inlX5 hown hK hP 8 rfl rfl 1 (by decide) wf_RX5_15 rfl dX5_addStamps_22 ?_
        refine lv_iload_n hx hb dX5_addStamps_25 rfl (lv_at hl 2 rfl) ?_
        refine sm_ild hx hb hK hP 10 rfl i rfl (by omega) (by decide) dX5_addStamps_26 ?_
        refine lv_iadd hx hb dX5_addStamps_27 ?_
        refine lv_istore_n (lv' := [(1, .int (q + (T.2.1 i))), (0, .ref (ad 8)), (2, .int (nI i))]) hx hb dX5_addStamps_28 rfl hl (by decide) rfl (fun ls hl => ?_)
        refine lv_iinc (v := nI (i + 1)) (lv' := [(2, .int (nI (i + 1))), (1, .int (q + (T.2.1 i))), (0, .ref (ad 8))]) hx hb dX5_addStamps_29 hl (k := 2) rfl (nI_1 i) (by decide) rfl (fun ls hl => ?_)
        refine lv_goto (tgt := 4) hx hb dX5_addStamps_32 (by decide) ?_
        exact ih _ (by omega) (i + 1) (q + T.2.1 i) ls rfl (by omega) (by rw [sm_asS (by omega), if_pos (by simp [sm_kd, c_2])] at hR; exact hR) (lv_sub hl [2, 1, 0] rfl)

set_option maxHeartbeats 1000000 in
set_option maxRecDepth 100000 in
theorem c_X5_putEntry (k : Nat) (hk : k < 40) (a b x : Int32) : sm_MC l yX5_putEntry cX5_putEntry 5 none 1 21 [.ref (ad 8), .int (nI k), .int a, .int b, .int x] D (sm_w6 D ad P S T L M C cp ph fo ne no rc wr) (fun w => w = sm_w6 D ad P S (sm_entT T k a b x) L M C cp ph fo ne no rc wr) none := by
  refine sm_met (own := RX5) (by decide) rfl (Nat.le_of_ble_eq_true rfl) ?_
  intro p e s m below meth c ls hC hv hl
  obtain ⟨hx, hb, hml, hr, hown, hlk, hts⟩ := id hC
  obtain ⟨⟨hP, hK⟩, hD, hZ⟩ := hv
  have hS : va_S (sm_ad (sm_w6 D ad P S T L M C cp ph fo ne no rc wr)) s.heap s.heap [] := va_S.rf
  have hl : lv_has ls 5 [(0, .ref (ad 8)), (1, .int (nI k)), (2, .int a), (3, .int b), (4, .int x)] := hl
  refine lv_iload_n hx hb dX5_putEntry_0 rfl (lv_at hl 1 rfl) ?_
  refine sm_cNPr (rest := []) hC hK hP (c_X6_isKey D ad P S T L M C cp ph fo ne no rc wr k (by omega)) qyX6_isKey (List.mem_of_getElem? (i := 1) rfl) ⟨Nat.le_of_ble_eq_true rfl, Nat.le_of_ble_eq_true rfl⟩ rfl hl.1 rfl (Nat.le_of_ble_eq_true rfl) dX5_putEntry_1 ⟨Nat.le_of_ble_eq_true rfl, Nat.le_of_ble_eq_true rfl⟩ ?_
  refine lv_if_eq (tgt := 36) hx hb dX5_putEntry_4 (by decide) (fun h => absurd h (by decide)) (fun _ => ?_)
  refine lv_aload_n hx hb dX5_putEntry_7 rfl (lv_at hl 0 rfl) ?_
  refine sm_gt (ci := 5) (C := RX5) (T := TX5) (N := 4) hx hb hts inlX5 hown hK hP 8 rfl rfl 0 (by decide) wf_RX5_9 rfl dX5_putEntry_8 ?_
  refine lv_iload_n hx hb dX5_putEntry_11 rfl (lv_at hl 1 rfl) ?_
  refine lv_iconst (v := 1) hx hb dX5_putEntry_12 (by decide) ?_
  refine sm_ist hx hb hK hP hD hS 9 rfl k rfl (by omega) (by decide) dX5_putEntry_13 (fun H locs hP hD hS => ?_)
  have hP : va_P D.1 sm_cl (sm_w6 D ad P S (va_up T.1 k 1, T.2) L M C cp ph fo ne no rc wr) H := hP
  have hD : va_D (sm_ad (sm_w6 D ad P S T L M C cp ph fo ne no rc wr)) (sm_w6 D ad P S (va_up T.1 k 1, T.2) L M C cp ph fo ne no rc wr) := hD
  refine lv_aload_n hx hb dX5_putEntry_14 rfl (lv_at hl 0 rfl) ?_
  refine sm_gt (ci := 5) (C := RX5) (T := TX5) (N := 4) hx hb hts inlX5 hown hK hP 8 rfl rfl 2 (by decide) wf_RX5_18 rfl dX5_putEntry_15 ?_
  refine lv_iload_n hx hb dX5_putEntry_18 rfl (lv_at hl 1 rfl) ?_
  refine lv_iload_n hx hb dX5_putEntry_19 rfl (lv_at hl 2 rfl) ?_
  refine sm_ist hx hb hK hP hD hS 11 rfl k rfl (by omega) (by decide) dX5_putEntry_20 (fun H locs hP hD hS => ?_)
  have hP : va_P D.1 sm_cl (sm_w6 D ad P S (va_up T.1 k 1, T.2.1, va_up T.2.2.1 k a, T.2.2.2) L M C cp ph fo ne no rc wr) H := hP
  have hD : va_D (sm_ad (sm_w6 D ad P S T L M C cp ph fo ne no rc wr)) (sm_w6 D ad P S (va_up T.1 k 1, T.2.1, va_up T.2.2.1 k a, T.2.2.2) L M C cp ph fo ne no rc wr) := hD
  refine lv_aload_n hx hb dX5_putEntry_21 rfl (lv_at hl 0 rfl) ?_
  refine sm_gt (ci := 5) (C := RX5) (T := TX5) (N := 4) hx hb hts inlX5 hown hK hP 8 rfl rfl 3 (by decide) wf_RX5_21 rfl dX5_putEntry_22 ?_
  refine lv_iload_n hx hb dX5_putEntry_25 rfl (lv_at hl 1 rfl) ?_
  refine lv_iload_n hx hb dX5_putEntry_26 rfl (lv_at hl 3 rfl) ?_
  refine sm_ist hx hb hK hP hD hS 12 rfl k rfl (by omega) (by decide) dX5_putEntry_27 (fun H locs hP hD hS => ?_)
  have hP : va_P D.1 sm_cl (sm_w6 D ad P S (va_up T.1 k 1, T.2.1, va_up T.2.2.1 k a, va_up T.2.2.2 k b) L M C cp ph fo ne no rc wr) H := hP
  have hD : va_D (sm_ad (sm_w6 D ad P S T L M C cp ph fo ne no rc wr)) (sm_w6 D ad P S (va_up T.1 k 1, T.2.1, va_up T.2.2.1 k a, va_up T.2.2.2 k b) L M C cp ph fo ne no rc wr) := hD
  refine lv_aload_n hx hb dX5_putEntry_28 rfl (lv_at hl 0 rfl) ?_
  refine sm_gt (ci := 5) (C := RX5) (T := TX5) (N := 4) hx hb hts inlX5 hown hK hP 8 rfl rfl 1 (by decide) wf_RX5_15 rfl dX5_putEntry_29 ?_
  refine lv_iload_n hx hb dX5_putEntry_32 rfl (lv_at hl 1 rfl) ?_
  refine lv_iload hx hb dX5_putEntry_33 (lv_at hl 4 rfl) ?_
  refine sm_ist hx hb hK hP hD hS 10 rfl k rfl (by omega) (by decide) dX5_putEntry_35 (fun H locs hP hD hS => ?_)
  have hP : va_P D.1 sm_cl (sm_w6 D ad P S (va_up T.1 k 1, va_up T.2.1 k x, va_up T.2.2.1 k a, va_up T.2.2.2 k b) L M C cp ph fo ne no rc wr) H := hP
  have hD : va_D (sm_ad (sm_w6 D ad P S T L M C cp ph fo ne no rc wr)) (sm_w6 D ad P S (va_up T.1 k 1, va_up T.2.1 k x, va_up T.2.2.1 k a, va_up T.2.2.2 k b) L M C cp ph fo ne no rc wr) := hD
  exact sm_vretC hC hP hD hS rfl  (by exact rfl) dX5_putEntry_36

set_option maxHeartbeats 1000000 in
set_option maxRecDepth 100000 in
theorem c_X5_put (k : Nat) (hk : k < 40) (y x : Int32) : sm_MC l yX5_put cX5_put 4 none 1 21 [.ref (ad 8), .int (nI k), .int y, .int x] D (sm_w6 D ad P S T L M C cp ph fo ne no rc wr) (fun w => w = sm_w6 D ad P S (sm_hldT T k y x) L M C cp ph fo ne no rc wr) none := by
  refine sm_met (own := RX5) (by decide) rfl (Nat.le_of_ble_eq_true rfl) ?_
  intro p e s m below meth c ls hC hv hl
  obtain ⟨hx, hb, hml, hr, hown, hlk, hts⟩ := id hC
  obtain ⟨⟨hP, hK⟩, hD, hZ⟩ := hv
  have hS : va_S (sm_ad (sm_w6 D ad P S T L M C cp ph fo ne no rc wr)) s.heap s.heap [] := va_S.rf
  have hl : lv_has ls 4 [(0, .ref (ad 8)), (1, .int (nI k)), (2, .int y), (3, .int x)] := hl
  refine lv_iload_n hx hb dX5_put_0 rfl (lv_at hl 1 rfl) ?_
  refine sm_cNPr (rest := []) hC hK hP (c_X6_isKey D ad P S T L M C cp ph fo ne no rc wr k (by omega)) qyX6_isKey (List.mem_of_getElem? (i := 1) rfl) ⟨Nat.le_of_ble_eq_true rfl, Nat.le_of_ble_eq_true rfl⟩ rfl hl.1 rfl (Nat.le_of_ble_eq_true rfl) dX5_put_1 ⟨Nat.le_of_ble_eq_true rfl, Nat.le_of_ble_eq_true rfl⟩ ?_
  refine lv_if_eq (tgt := 21) hx hb dX5_put_4 (by decide) (fun h => absurd h (by decide)) (fun _ => ?_)
  refine lv_aload_n hx hb dX5_put_7 rfl (lv_at hl 0 rfl) ?_
  refine sm_gt (ci := 5) (C := RX5) (T := TX5) (N := 4) hx hb hts inlX5 hown hK hP 8 rfl rfl 0 (by decide) wf_RX5_9 rfl dX5_put_8 ?_
  refine lv_iload_n hx hb dX5_put_11 rfl (lv_at hl 1 rfl) ?_
  refine lv_iload_n hx hb dX5_put_12 rfl (lv_at hl 2 rfl) ?_
  refine sm_ist hx hb hK hP hD hS 9 rfl k rfl (by omega) (by decide) dX5_put_13 (fun H locs hP hD hS => ?_)
  have hP : va_P D.1 sm_cl (sm_w6 D ad P S (va_up T.1 k y, T.2) L M C cp ph fo ne no rc wr) H := hP
  have hD : va_D (sm_ad (sm_w6 D ad P S T L M C cp ph fo ne no rc wr)) (sm_w6 D ad P S (va_up T.1 k y, T.2) L M C cp ph fo ne no rc wr) := hD
  refine lv_aload_n hx hb dX5_put_14 rfl (lv_at hl 0 rfl) ?_
  refine sm_gt (ci := 5) (C := RX5) (T := TX5) (N := 4) hx hb hts inlX5 hown hK hP 8 rfl rfl 1 (by decide) wf_RX5_15 rfl dX5_put_15 ?_
  refine lv_iload_n hx hb dX5_put_18 rfl (lv_at hl 1 rfl) ?_
  refine lv_iload_n hx hb dX5_put_19 rfl (lv_at hl 3 rfl) ?_
  refine sm_ist hx hb hK hP hD hS 10 rfl k rfl (by omega) (by decide) dX5_put_20 (fun H locs hP hD hS => ?_)
  have hP : va_P D.1 sm_cl (sm_w6 D ad P S (va_up T.1 k y, va_up T.2.1 k x, T.2.2) L M C cp ph fo ne no rc wr) H := hP
  have hD : va_D (sm_ad (sm_w6 D ad P S T L M C cp ph fo ne no rc wr)) (sm_w6 D ad P S (va_up T.1 k y, va_up T.2.1 k x, T.2.2) L M C cp ph fo ne no rc wr) := hD
  exact sm_vretC hC hP hD hS rfl  (by exact rfl) dX5_put_21

set_option maxHeartbeats 1000000 in
set_option maxRecDepth 100000 in
theorem c_X5_putAside (k : Nat) (hk : k < 40) (x : Int32) : sm_MC l yX5_putAside cX5_putAside 3 none 2 44 [.ref (ad 8), .int (nI k), .int x] D (sm_w6 D ad P S T L M C cp ph fo ne no rc wr) (fun w => w = sm_w6 D ad P S (sm_hldT T k 2 x) L M C cp ph fo ne no rc wr) none := by
  refine sm_met (own := RX5) (by decide) rfl (Nat.le_of_ble_eq_true rfl) ?_
  intro p e s m below meth c ls hC hv hl
  obtain ⟨hx, hb, hml, hr, hown, hlk, hts⟩ := id hC
  obtain ⟨⟨hP, hK⟩, hD, hZ⟩ := hv
  have hS : va_S (sm_ad (sm_w6 D ad P S T L M C cp ph fo ne no rc wr)) s.heap s.heap [] := va_S.rf
  have hl : lv_has ls 3 [(0, .ref (ad 8)), (1, .int (nI k)), (2, .int x)] := hl
  refine lv_aload_n hx hb dX5_putAside_0 rfl (lv_at hl 0 rfl) ?_
  refine lv_iload_n hx hb dX5_putAside_1 rfl (lv_at hl 1 rfl) ?_
  refine lv_iconst (v := 2) hx hb dX5_putAside_2 (by decide) ?_
  refine lv_iload_n hx hb dX5_putAside_3 rfl (lv_at hl 2 rfl) ?_
  refine sm_cVC (rest := []) hC hK hP hD hS hZ (c_X5_put D ad P S T L M C cp ph fo ne no rc wr k (by omega) 2 x) qyX5_put wl_RX5_38 ⟨Nat.le_of_ble_eq_true rfl, Nat.le_of_ble_eq_true rfl⟩ 8 rfl rfl rfl hl.1 rfl (Nat.le_of_ble_eq_true rfl) dX5_putAside_4 ⟨Nat.le_of_ble_eq_true rfl, Nat.le_of_ble_eq_true rfl⟩ (fun w1 H locs hB hP hD hS => ?_)
  subst hB
  exact sm_vretC hC hP hD hS rfl  (by exact rfl) dX5_putAside_7

set_option maxHeartbeats 1000000 in
set_option maxRecDepth 100000 in
theorem c_X5_putTrace (k : Nat) (hk : k < 40) (x : Int32) : sm_MC l yX5_putTrace cX5_putTrace 3 none 2 44 [.ref (ad 8), .int (nI k), .int x] D (sm_w6 D ad P S T L M C cp ph fo ne no rc wr) (fun w => w = sm_w6 D ad P S (sm_hldT T k 3 x) L M C cp ph fo ne no rc wr) none := by
  refine sm_met (own := RX5) (by decide) rfl (Nat.le_of_ble_eq_true rfl) ?_
  intro p e s m below meth c ls hC hv hl
  obtain ⟨hx, hb, hml, hr, hown, hlk, hts⟩ := id hC
  obtain ⟨⟨hP, hK⟩, hD, hZ⟩ := hv
  have hS : va_S (sm_ad (sm_w6 D ad P S T L M C cp ph fo ne no rc wr)) s.heap s.heap [] := va_S.rf
  have hl : lv_has ls 3 [(0, .ref (ad 8)), (1, .int (nI k)), (2, .int x)] := hl
  refine lv_aload_n hx hb dX5_putTrace_0 rfl (lv_at hl 0 rfl) ?_
  refine lv_iload_n hx hb dX5_putTrace_1 rfl (lv_at hl 1 rfl) ?_
  refine lv_iconst (v := 3) hx hb dX5_putTrace_2 (by decide) ?_
  refine lv_iload_n hx hb dX5_putTrace_3 rfl (lv_at hl 2 rfl) ?_
  refine sm_cVC (rest := []) hC hK hP hD hS hZ (c_X5_put D ad P S T L M C cp ph fo ne no rc wr k (by omega) 3 x) qyX5_put wl_RX5_38 ⟨Nat.le_of_ble_eq_true rfl, Nat.le_of_ble_eq_true rfl⟩ 8 rfl rfl rfl hl.1 rfl (Nat.le_of_ble_eq_true rfl) dX5_putTrace_4 ⟨Nat.le_of_ble_eq_true rfl, Nat.le_of_ble_eq_true rfl⟩ (fun w1 H locs hB hP hD hS => ?_)
  subst hB
  exact sm_vretC hC hP hD hS rfl  (by exact rfl) dX5_putTrace_7

set_option maxHeartbeats 1000000 in
set_option maxRecDepth 100000 in
theorem c_X1_isIndex (k : Nat) (hk : k < 120) : sm_MP l yX1_isIndex cX1_isIndex 1 (some .boolean) 0 0 [.int (nI k)] D (sm_w6 D ad P S T L M C cp ph fo ne no rc wr) (some (.int (sm_b true))) := by
  refine sm_met (own := RX1) (by decide) rfl (Nat.le_of_ble_eq_true rfl) ?_
  intro p e s m below meth c ls hC hv hl
  obtain ⟨hx, hb, hml, hr, hown, hlk, hts⟩ := id hC
  obtain ⟨hP, hK⟩ := hv
  have hl : lv_has ls 1 [(0, .int (nI k))] := hl
  refine lv_iload_n hx hb dX1_isIndex_0 rfl (lv_at hl 0 rfl) ?_
  refine lv_if_lt (tgt := 14) hx hb dX1_isIndex_1 (by decide) (fun h => absurd h (fun z => absurd (sm_Nlt (a := k) (b := 0) z (by omega) (by omega)) (Nat.not_lt_zero _))) (fun _ => ?_)
  refine lv_iload_n hx hb dX1_isIndex_4 rfl (lv_at hl 0 rfl) ?_
  refine lv_bipush (v := 120) hx hb dX1_isIndex_5 (by decide) ?_
  refine lv_icmp_ge (tgt := 14) hx hb dX1_isIndex_7 (by decide) (fun h => absurd h (Int32.not_le.mpr (sm_pNlt (a := k) (b := 120) hk (by omega)))) (fun _ => ?_)
  refine lv_iconst (v := 1) hx hb dX1_isIndex_10 (by decide) ?_
  refine lv_goto (tgt := 15) hx hb dX1_isIndex_11 (by decide) ?_
  exact sm_retP hC (rfl) (by decide) dX1_isIndex_15

set_option maxHeartbeats 1000000 in
set_option maxRecDepth 100000 in
theorem c_X1_size_f  : sm_MP l yX1_size cX1_size 1 (some .int) 0 0 [.ref (ad 13)] D (sm_w6 D ad P S T L M C cp ph fo ne no rc wr) (some (.int (nI L.1))) := by
  refine sm_met (own := RX1) (by decide) rfl (Nat.le_of_ble_eq_true rfl) ?_
  intro p e s m below meth c ls hC hv hl
  obtain ⟨hx, hb, hml, hr, hown, hlk, hts⟩ := id hC
  obtain ⟨hP, hK⟩ := hv
  have hl : lv_has ls 1 [(0, .ref (ad 13))] := hl
  refine lv_aload_n hx hb dX1_size_0 rfl (lv_at hl 0 rfl) ?_
  refine sm_gt (ci := 1) (C := RX1) (T := TX1) (N := 5) hx hb hts inlX1 hown hK hP 13 rfl rfl 4 (by decide) wf_RX1_25 rfl dX1_size_1 ?_
  exact sm_retP hC rfl rfl dX1_size_4

set_option maxHeartbeats 1000000 in
set_option maxRecDepth 100000 in
theorem c_X1_isFull_f (hL : L.1 ≤ 120) : sm_MP l yX1_isFull cX1_isFull 1 (some .boolean) 0 0 [.ref (ad 13)] D (sm_w6 D ad P S T L M C cp ph fo ne no rc wr) (some (.int (sm_b (sm_full L)))) := by
  refine sm_met (own := RX1) (by decide) rfl (Nat.le_of_ble_eq_true rfl) ?_
  intro p e s m below meth c ls hC hv hl
  obtain ⟨hx, hb, hml, hr, hown, hlk, hts⟩ := id hC
  obtain ⟨hP, hK⟩ := hv
  have hl : lv_has ls 1 [(0, .ref (ad 13))] := hl
  refine lv_aload_n hx hb dX1_isFull_0 rfl (lv_at hl 0 rfl) ?_
  refine sm_gt (ci := 1) (C := RX1) (T := TX1) (N := 5) hx hb hts inlX1 hown hK hP 13 rfl rfl 4 (by decide) wf_RX1_25 rfl dX1_isFull_1 ?_
  refine lv_bipush (v := 120) hx hb dX1_isFull_4 (by decide) ?_
  refine lv_icmp_lt (tgt := 13) hx hb dX1_isFull_6 (by decide) (fun c_1 => ?_) (fun c_1 => ?_)
  · have c_1 := sm_Nlt (a := L.1) (b := 120) (c_1) (by omega) (by omega)
    refine lv_iconst (v := 0) hx hb dX1_isFull_13 (by decide) ?_
    exact sm_retP hC (by first | rfl | (simp [sm_full, sm_b, c_1]; done) | (simp [sm_full, sm_b] at c_1; simp [sm_full, sm_b, c_1]; done) | (simp_all [sm_full, sm_b]; done)) (by decide) dX1_isFull_14
  · have c_1 := sm_Nnl (a := L.1) (b := 120) (c_1) (by omega) (by omega)
    refine lv_iconst (v := 1) hx hb dX1_isFull_9 (by decide) ?_
    refine lv_goto (tgt := 14) hx hb dX1_isFull_10 (by decide) ?_
    exact sm_retP hC (by first | rfl | (simp [sm_full, sm_b, c_1]; done) | (simp [sm_full, sm_b] at c_1; simp [sm_full, sm_b, c_1]; done) | (simp_all [sm_full, sm_b]; done)) (by decide) dX1_isFull_14

set_option maxHeartbeats 1000000 in
set_option maxRecDepth 100000 in
theorem c_X1_append_f (k : Nat) (z : Bool) (a b : Int32) (hL : L.1 < 120) : sm_MC l yX1_append cX1_append 5 none 0 0 [.ref (ad 13), .int (nI k), .int (sm_b z), .int a, .int b] D (sm_w6 D ad P S T L M C cp ph fo ne no rc wr) (fun w => w = sm_w6 D ad P S T (sm_appL L k z a b) M C cp ph fo ne no rc wr) none := by
  refine sm_met (own := RX1) (by decide) rfl (Nat.le_of_ble_eq_true rfl) ?_
  intro p e s m below meth c ls hC hv hl
  obtain ⟨hx, hb, hml, hr, hown, hlk, hts⟩ := id hC
  obtain ⟨⟨hP, hK⟩, hD, hZ⟩ := hv
  have hS : va_S (sm_ad (sm_w6 D ad P S T L M C cp ph fo ne no rc wr)) s.heap s.heap [] := va_S.rf
  have hl : lv_has ls 5 [(0, .ref (ad 13)), (1, .int (nI k)), (2, .int (sm_b z)), (3, .int a), (4, .int b)] := hl
  refine lv_aload_n hx hb dX1_append_0 rfl (lv_at hl 0 rfl) ?_
  refine sm_gt (ci := 1) (C := RX1) (T := TX1) (N := 5) hx hb hts inlX1 hown hK hP 13 rfl rfl 4 (by decide) wf_RX1_25 rfl dX1_append_1 ?_
  refine lv_if_lt (tgt := 67) hx hb dX1_append_4 (by decide) (fun h => absurd h (fun z => absurd (sm_Nlt (a := L.1) (b := 0) z (by omega) (by omega)) (Nat.not_lt_zero _))) (fun _ => ?_)
  refine lv_aload_n hx hb dX1_append_7 rfl (lv_at hl 0 rfl) ?_
  refine sm_gt (ci := 1) (C := RX1) (T := TX1) (N := 5) hx hb hts inlX1 hown hK hP 13 rfl rfl 4 (by decide) wf_RX1_25 rfl dX1_append_8 ?_
  refine lv_bipush (v := 120) hx hb dX1_append_11 (by decide) ?_
  refine lv_icmp_ge (tgt := 67) hx hb dX1_append_13 (by decide) (fun h => absurd h (Int32.not_le.mpr (sm_pNlt (a := L.1) (b := 120) hL (by omega)))) (fun _ => ?_)
  refine lv_aload_n hx hb dX1_append_16 rfl (lv_at hl 0 rfl) ?_
  refine sm_gt (ci := 1) (C := RX1) (T := TX1) (N := 5) hx hb hts inlX1 hown hK hP 13 rfl rfl 0 (by decide) wf_RX1_9 rfl dX1_append_17 ?_
  refine lv_aload_n hx hb dX1_append_20 rfl (lv_at hl 0 rfl) ?_
  refine sm_gt (ci := 1) (C := RX1) (T := TX1) (N := 5) hx hb hts inlX1 hown hK hP 13 rfl rfl 4 (by decide) wf_RX1_25 rfl dX1_append_21 ?_
  refine lv_iload_n hx hb dX1_append_24 rfl (lv_at hl 1 rfl) ?_
  refine sm_istG (g := nI) hx hb hK hP hD hS 14 rfl k rfl L.1 rfl (by omega) (by decide) dX1_append_25 (fun H locs hP hD hS => ?_)
  have hP : va_P D.1 sm_cl (sm_w6 D ad P S T (L.1, va_up L.2.1 L.1 k, L.2.2) M C cp ph fo ne no rc wr) H := hP
  have hD : va_D (sm_ad (sm_w6 D ad P S T L M C cp ph fo ne no rc wr)) (sm_w6 D ad P S T (L.1, va_up L.2.1 L.1 k, L.2.2) M C cp ph fo ne no rc wr) := hD
  refine lv_aload_n hx hb dX1_append_26 rfl (lv_at hl 0 rfl) ?_
  refine sm_gt (ci := 1) (C := RX1) (T := TX1) (N := 5) hx hb hts inlX1 hown hK hP 13 rfl rfl 1 (by decide) wf_RX1_15 rfl dX1_append_27 ?_
  refine lv_aload_n hx hb dX1_append_30 rfl (lv_at hl 0 rfl) ?_
  refine sm_gt (ci := 1) (C := RX1) (T := TX1) (N := 5) hx hb hts inlX1 hown hK hP 13 rfl rfl 4 (by decide) wf_RX1_25 rfl dX1_append_31 ?_
  refine lv_iload_n hx hb dX1_append_34 rfl (lv_at hl 2 rfl) ?_
  refine sm_zst hx hb hK hP hD hS 15 rfl z rfl L.1 rfl (by omega) (by decide) dX1_append_35 (fun H locs hP hD hS => ?_)
  have hP : va_P D.1 sm_cl (sm_w6 D ad P S T (L.1, va_up L.2.1 L.1 k, va_up L.2.2.1 L.1 z, L.2.2.2) M C cp ph fo ne no rc wr) H := hP
  have hD : va_D (sm_ad (sm_w6 D ad P S T L M C cp ph fo ne no rc wr)) (sm_w6 D ad P S T (L.1, va_up L.2.1 L.1 k, va_up L.2.2.1 L.1 z, L.2.2.2) M C cp ph fo ne no rc wr) := hD
  refine lv_aload_n hx hb dX1_append_36 rfl (lv_at hl 0 rfl) ?_
  refine sm_gt (ci := 1) (C := RX1) (T := TX1) (N := 5) hx hb hts inlX1 hown hK hP 13 rfl rfl 2 (by decide) wf_RX1_19 rfl dX1_append_37 ?_
  refine lv_aload_n hx hb dX1_append_40 rfl (lv_at hl 0 rfl) ?_
  refine sm_gt (ci := 1) (C := RX1) (T := TX1) (N := 5) hx hb hts inlX1 hown hK hP 13 rfl rfl 4 (by decide) wf_RX1_25 rfl dX1_append_41 ?_
  refine lv_iload_n hx hb dX1_append_44 rfl (lv_at hl 3 rfl) ?_
  refine sm_ist hx hb hK hP hD hS 16 rfl L.1 rfl (by omega) (by decide) dX1_append_45 (fun H locs hP hD hS => ?_)
  have hP : va_P D.1 sm_cl (sm_w6 D ad P S T (L.1, va_up L.2.1 L.1 k, va_up L.2.2.1 L.1 z, va_up L.2.2.2.1 L.1 a, L.2.2.2.2) M C cp ph fo ne no rc wr) H := hP
  have hD : va_D (sm_ad (sm_w6 D ad P S T L M C cp ph fo ne no rc wr)) (sm_w6 D ad P S T (L.1, va_up L.2.1 L.1 k, va_up L.2.2.1 L.1 z, va_up L.2.2.2.1 L.1 a, L.2.2.2.2) M C cp ph fo ne no rc wr) := hD
  refine lv_aload_n hx hb dX1_append_46 rfl (lv_at hl 0 rfl) ?_
  refine sm_gt (ci := 1) (C := RX1) (T := TX1) (N := 5) hx hb hts inlX1 hown hK hP 13 rfl rfl 3 (by decide) wf_RX1_22 rfl dX1_append_47 ?_
  refine lv_aload_n hx hb dX1_append_50 rfl (lv_at hl 0 rfl) ?_
  refine sm_gt (ci := 1) (C := RX1) (T := TX1) (N := 5) hx hb hts inlX1 hown hK hP 13 rfl rfl 4 (by decide) wf_RX1_25 rfl dX1_append_51 ?_
  refine lv_iload hx hb dX1_append_54 (lv_at hl 4 rfl) ?_
  refine sm_ist hx hb hK hP hD hS 17 rfl L.1 rfl (by omega) (by decide) dX1_append_56 (fun H locs hP hD hS => ?_)
  have hP : va_P D.1 sm_cl (sm_w6 D ad P S T (L.1, va_up L.2.1 L.1 k, va_up L.2.2.1 L.1 z, va_up L.2.2.2.1 L.1 a, va_up L.2.2.2.2 L.1 b) M C cp ph fo ne no rc wr) H := hP
  have hD : va_D (sm_ad (sm_w6 D ad P S T L M C cp ph fo ne no rc wr)) (sm_w6 D ad P S T (L.1, va_up L.2.1 L.1 k, va_up L.2.2.1 L.1 z, va_up L.2.2.2.1 L.1 a, va_up L.2.2.2.2 L.1 b) M C cp ph fo ne no rc wr) := hD
  refine lv_aload_n hx hb dX1_append_57 rfl (lv_at hl 0 rfl) ?_
  refine lv_dup hx hb dX1_append_58 rfl ?_
  refine sm_gt (ci := 1) (C := RX1) (T := TX1) (N := 5) hx hb hts inlX1 hown hK hP 13 rfl rfl 4 (by decide) wf_RX1_25 rfl dX1_append_59 ?_
  refine lv_iconst (v := 1) hx hb dX1_append_62 (by decide) ?_
  refine lv_iadd hx hb dX1_append_63 ?_
  refine sm_re (y := nI (L.1 + 1)) (nI_1 L.1) ?_
  refine sm_pt (ci := 1) (C := RX1) (T := TX1) (N := 5) hx hb hts inlX1 tyX1 tyX1_ok nmX1 hown hK hP hD hS 13 rfl rfl 4 (by decide) wf_RX1_25 rfl rfl rfl (Nat.le_of_ble_eq_true rfl) dX1_append_64 (fun H locs hP hD hS => ?_)
  have hP : va_P D.1 sm_cl (sm_w6 D ad P S T (L.1 + 1, va_up L.2.1 L.1 k, va_up L.2.2.1 L.1 z, va_up L.2.2.2.1 L.1 a, va_up L.2.2.2.2 L.1 b) M C cp ph fo ne no rc wr) H := hP
  have hD : va_D (sm_ad (sm_w6 D ad P S T L M C cp ph fo ne no rc wr)) (sm_w6 D ad P S T (L.1 + 1, va_up L.2.1 L.1 k, va_up L.2.2.1 L.1 z, va_up L.2.2.2.1 L.1 a, va_up L.2.2.2.2 L.1 b) M C cp ph fo ne no rc wr) := hD
  exact sm_vretC hC hP hD hS rfl  (by exact rfl) dX1_append_67

set_option maxHeartbeats 1000000 in
set_option maxRecDepth 100000 in
theorem c_X1_appendRow_f (k : Nat) (a b : Int32) (hL : L.1 < 120) : sm_MC l yX1_appendRow cX1_appendRow 4 none 1 24 [.ref (ad 13), .int (nI k), .int a, .int b] D (sm_w6 D ad P S T L M C cp ph fo ne no rc wr) (fun w => w = sm_w6 D ad P S T (sm_appL L k false a b) M C cp ph fo ne no rc wr) none := by
  refine sm_met (own := RX1) (by decide) rfl (Nat.le_of_ble_eq_true rfl) ?_
  intro p e s m below meth c ls hC hv hl
  obtain ⟨hx, hb, hml, hr, hown, hlk, hts⟩ := id hC
  obtain ⟨⟨hP, hK⟩, hD, hZ⟩ := hv
  have hS : va_S (sm_ad (sm_w6 D ad P S T L M C cp ph fo ne no rc wr)) s.heap s.heap [] := va_S.rf
  have hl : lv_has ls 4 [(0, .ref (ad 13)), (1, .int (nI k)), (2, .int a), (3, .int b)] := hl
  refine lv_aload_n hx hb dX1_appendRow_0 rfl (lv_at hl 0 rfl) ?_
  refine lv_iload_n hx hb dX1_appendRow_1 rfl (lv_at hl 1 rfl) ?_
  refine lv_iconst (v := 0) hx hb dX1_appendRow_2 (by decide) ?_
  refine lv_iload_n hx hb dX1_appendRow_3 rfl (lv_at hl 2 rfl) ?_
  refine lv_iload_n hx hb dX1_appendRow_4 rfl (lv_at hl 3 rfl) ?_
  refine sm_cVC (rest := []) hC hK hP hD hS hZ (c_X1_append_f D ad P S T L M C cp ph fo ne no rc wr k false a b hL) qyX1_append wl_RX1_29 ⟨Nat.le_of_ble_eq_true rfl, Nat.le_of_ble_eq_true rfl⟩ 13 rfl rfl rfl hl.1 rfl (Nat.le_of_ble_eq_true rfl) dX1_appendRow_5 ⟨Nat.le_of_ble_eq_true rfl, Nat.le_of_ble_eq_true rfl⟩ (fun w1 H locs hB hP hD hS => ?_)
  subst hB
  exact sm_vretC hC hP hD hS rfl  (by exact rfl) dX1_appendRow_8

set_option maxHeartbeats 1000000 in
set_option maxRecDepth 100000 in
theorem c_X1_appendDeletion_f (k : Nat) (hL : L.1 < 120) : sm_MC l yX1_appendDeletion cX1_appendDeletion 2 none 1 24 [.ref (ad 13), .int (nI k)] D (sm_w6 D ad P S T L M C cp ph fo ne no rc wr) (fun w => w = sm_w6 D ad P S T (sm_appL L k true 0 0) M C cp ph fo ne no rc wr) none := by
  refine sm_met (own := RX1) (by decide) rfl (Nat.le_of_ble_eq_true rfl) ?_
  intro p e s m below meth c ls hC hv hl
  obtain ⟨hx, hb, hml, hr, hown, hlk, hts⟩ := id hC
  obtain ⟨⟨hP, hK⟩, hD, hZ⟩ := hv
  have hS : va_S (sm_ad (sm_w6 D ad P S T L M C cp ph fo ne no rc wr)) s.heap s.heap [] := va_S.rf
  have hl : lv_has ls 2 [(0, .ref (ad 13)), (1, .int (nI k))] := hl
  refine lv_aload_n hx hb dX1_appendDeletion_0 rfl (lv_at hl 0 rfl) ?_
  refine lv_iload_n hx hb dX1_appendDeletion_1 rfl (lv_at hl 1 rfl) ?_
  refine lv_iconst (v := 1) hx hb dX1_appendDeletion_2 (by decide) ?_
  refine lv_iconst (v := 0) hx hb dX1_appendDeletion_3 (by decide) ?_
  refine lv_iconst (v := 0) hx hb dX1_appendDeletion_4 (by decide) ?_
  refine sm_cVC (rest := []) hC hK hP hD hS hZ (c_X1_append_f D ad P S T L M C cp ph fo ne no rc wr k true 0 0 hL) qyX1_append wl_RX1_29 ⟨Nat.le_of_ble_eq_true rfl, Nat.le_of_ble_eq_true rfl⟩ 13 rfl rfl rfl hl.1 rfl (Nat.le_of_ble_eq_true rfl) dX1_appendDeletion_5 ⟨Nat.le_of_ble_eq_true rfl, Nat.le_of_ble_eq_true rfl⟩ (fun w1 H locs hB hP hD hS => ?_)
  subst hB
  exact sm_vretC hC hP hD hS rfl  (by exact rfl) dX1_appendDeletion_8

set_option maxHeartbeats 1000000 in
set_option maxRecDepth 100000 in
theorem c_X1_key_f (i : Nat) (hi : i < 120) : sm_MP l yX1_key cX1_key 2 (some .int) 1 20 [.ref (ad 13), .int (nI i)] D (sm_w6 D ad P S T L M C cp ph fo ne no rc wr) (some (.int (nI (L.2.1 i)))) := by
  refine sm_met (own := RX1) (by decide) rfl (Nat.le_of_ble_eq_true rfl) ?_
  intro p e s m below meth c ls hC hv hl
  obtain ⟨hx, hb, hml, hr, hown, hlk, hts⟩ := id hC
  obtain ⟨hP, hK⟩ := hv
  have hl : lv_has ls 2 [(0, .ref (ad 13)), (1, .int (nI i))] := hl
  refine lv_iload_n hx hb dX1_key_0 rfl (lv_at hl 1 rfl) ?_
  refine sm_cSPr (rest := []) hC hK hP (c_X1_isIndex D ad P S T L M C cp ph fo ne no rc wr i (by omega)) qyX1_isIndex wl_RX1_33 ⟨Nat.le_of_ble_eq_true rfl, Nat.le_of_ble_eq_true rfl⟩ rfl hl.1 rfl (Nat.le_of_ble_eq_true rfl) dX1_key_1 ⟨Nat.le_of_ble_eq_true rfl, Nat.le_of_ble_eq_true rfl⟩ ?_
  refine lv_if_eq (tgt := 16) hx hb dX1_key_4 (by decide) (fun h => absurd h (by decide)) (fun _ => ?_)
  refine lv_aload_n hx hb dX1_key_7 rfl (lv_at hl 0 rfl) ?_
  refine sm_gt (ci := 1) (C := RX1) (T := TX1) (N := 5) hx hb hts inlX1 hown hK hP 13 rfl rfl 0 (by decide) wf_RX1_9 rfl dX1_key_8 ?_
  refine lv_iload_n hx hb dX1_key_11 rfl (lv_at hl 1 rfl) ?_
  refine sm_ild hx hb hK hP 14 rfl i rfl (by omega) (by decide) dX1_key_12 ?_
  refine lv_goto (tgt := 17) hx hb dX1_key_13 (by decide) ?_
  exact sm_retP hC rfl rfl dX1_key_17

set_option maxHeartbeats 1000000 in
set_option maxRecDepth 100000 in
theorem c_X1_isDeletion_f (i : Nat) (hi : i < 120) : sm_MP l yX1_isDeletion cX1_isDeletion 2 (some .boolean) 1 20 [.ref (ad 13), .int (nI i)] D (sm_w6 D ad P S T L M C cp ph fo ne no rc wr) (some (.int (sm_b (L.2.2.1 i)))) := by
  refine sm_met (own := RX1) (by decide) rfl (Nat.le_of_ble_eq_true rfl) ?_
  intro p e s m below meth c ls hC hv hl
  obtain ⟨hx, hb, hml, hr, hown, hlk, hts⟩ := id hC
  obtain ⟨hP, hK⟩ := hv
  have hl : lv_has ls 2 [(0, .ref (ad 13)), (1, .int (nI i))] := hl
  refine lv_iload_n hx hb dX1_isDeletion_0 rfl (lv_at hl 1 rfl) ?_
  refine sm_cSPr (rest := []) hC hK hP (c_X1_isIndex D ad P S T L M C cp ph fo ne no rc wr i (by omega)) qyX1_isIndex wl_RX1_33 ⟨Nat.le_of_ble_eq_true rfl, Nat.le_of_ble_eq_true rfl⟩ rfl hl.1 rfl (Nat.le_of_ble_eq_true rfl) dX1_isDeletion_1 ⟨Nat.le_of_ble_eq_true rfl, Nat.le_of_ble_eq_true rfl⟩ ?_
  refine lv_if_eq (tgt := 20) hx hb dX1_isDeletion_4 (by decide) (fun h => absurd h (by decide)) (fun _ => ?_)
  refine lv_aload_n hx hb dX1_isDeletion_7 rfl (lv_at hl 0 rfl) ?_
  refine sm_gt (ci := 1) (C := RX1) (T := TX1) (N := 5) hx hb hts inlX1 hown hK hP 13 rfl rfl 1 (by decide) wf_RX1_15 rfl dX1_isDeletion_8 ?_
  refine lv_iload_n hx hb dX1_isDeletion_11 rfl (lv_at hl 1 rfl) ?_
  refine sm_zld hx hb hK hP 15 rfl i rfl (by omega) (by decide) dX1_isDeletion_12 ?_
  refine lv_if_eq (tgt := 20) hx hb dX1_isDeletion_13 (by decide) (fun c_1 => ?_) (fun c_1 => ?_)
  · have c_1 := sm_b0 c_1
    refine lv_iconst (v := 0) hx hb dX1_isDeletion_20 (by decide) ?_
    exact sm_retP hC (by first | rfl | (simp [sm_b, c_1]; done) | (simp [sm_b] at c_1; simp [sm_b, c_1]; done) | (simp_all [sm_b]; done)) (by decide) dX1_isDeletion_21
  · have c_1 := sm_b1 c_1
    refine lv_iconst (v := 1) hx hb dX1_isDeletion_16 (by decide) ?_
    refine lv_goto (tgt := 21) hx hb dX1_isDeletion_17 (by decide) ?_
    exact sm_retP hC (by first | rfl | (simp [sm_b, c_1]; done) | (simp [sm_b] at c_1; simp [sm_b, c_1]; done) | (simp_all [sm_b]; done)) (by decide) dX1_isDeletion_21

set_option maxHeartbeats 1000000 in
set_option maxRecDepth 100000 in
theorem c_X1_number_f (i : Nat) (hi : i < 120) (z : Bool) : sm_MP l yX1_number cX1_number 3 (some .int) 1 20 [.ref (ad 13), .int (nI i), .int (sm_b z)] D (sm_w6 D ad P S T L M C cp ph fo ne no rc wr) (some (.int (sm_pk z (L.2.2.2.1 i, L.2.2.2.2 i)))) := by
  refine sm_met (own := RX1) (by decide) rfl (Nat.le_of_ble_eq_true rfl) ?_
  intro p e s m below meth c ls hC hv hl
  obtain ⟨hx, hb, hml, hr, hown, hlk, hts⟩ := id hC
  obtain ⟨hP, hK⟩ := hv
  have hl : lv_has ls 3 [(0, .ref (ad 13)), (1, .int (nI i)), (2, .int (sm_b z))] := hl
  refine lv_iload_n hx hb dX1_number_0 rfl (lv_at hl 1 rfl) ?_
  refine sm_cSPr (rest := []) hC hK hP (c_X1_isIndex D ad P S T L M C cp ph fo ne no rc wr i (by omega)) qyX1_isIndex wl_RX1_33 ⟨Nat.le_of_ble_eq_true rfl, Nat.le_of_ble_eq_true rfl⟩ rfl hl.1 rfl (Nat.le_of_ble_eq_true rfl) dX1_number_1 ⟨Nat.le_of_ble_eq_true rfl, Nat.le_of_ble_eq_true rfl⟩ ?_
  refine lv_if_ne (tgt := 9) hx hb dX1_number_4 (by decide) (fun _ => ?_) (fun h => absurd h (by decide))
  refine lv_iload_n hx hb dX1_number_9 rfl (lv_at hl 2 rfl) ?_
  refine lv_if_eq (tgt := 22) hx hb dX1_number_10 (by decide) (fun c_1 => ?_) (fun c_1 => ?_)
  · have c_1 := sm_b0 c_1
    refine lv_aload_n hx hb dX1_number_22 rfl (lv_at hl 0 rfl) ?_
    refine sm_gt (ci := 1) (C := RX1) (T := TX1) (N := 5) hx hb hts inlX1 hown hK hP 13 rfl rfl 2 (by decide) wf_RX1_19 rfl dX1_number_23 ?_
    refine lv_iload_n hx hb dX1_number_26 rfl (lv_at hl 1 rfl) ?_
    refine sm_ild hx hb hK hP 16 rfl i rfl (by omega) (by decide) dX1_number_27 ?_
    exact sm_retP hC (by first | rfl | (simp [sm_pk, c_1]; done) | (simp [sm_pk] at c_1; simp [sm_pk, c_1]; done) | (simp_all [sm_pk]; done)) rfl dX1_number_28
  · have c_1 := sm_b1 c_1
    refine lv_aload_n hx hb dX1_number_13 rfl (lv_at hl 0 rfl) ?_
    refine sm_gt (ci := 1) (C := RX1) (T := TX1) (N := 5) hx hb hts inlX1 hown hK hP 13 rfl rfl 3 (by decide) wf_RX1_22 rfl dX1_number_14 ?_
    refine lv_iload_n hx hb dX1_number_17 rfl (lv_at hl 1 rfl) ?_
    refine sm_ild hx hb hK hP 17 rfl i rfl (by omega) (by decide) dX1_number_18 ?_
    refine lv_goto (tgt := 28) hx hb dX1_number_19 (by decide) ?_
    exact sm_retP hC (by first | rfl | (simp [sm_pk, c_1]; done) | (simp [sm_pk] at c_1; simp [sm_pk, c_1]; done) | (simp_all [sm_pk]; done)) rfl dX1_number_28

set_option maxHeartbeats 1000000 in
set_option maxRecDepth 100000 in
theorem c_X1_size_g  : sm_MP l yX1_size cX1_size 1 (some .int) 0 0 [.ref (ad 18)] D (sm_w6 D ad P S T L M C cp ph fo ne no rc wr) (some (.int (nI M.1))) := by
  refine sm_met (own := RX1) (by decide) rfl (Nat.le_of_ble_eq_true rfl) ?_
  intro p e s m below meth c ls hC hv hl
  obtain ⟨hx, hb, hml, hr, hown, hlk, hts⟩ := id hC
  obtain ⟨hP, hK⟩ := hv
  have hl : lv_has ls 1 [(0, .ref (ad 18))] := hl
  refine lv_aload_n hx hb dX1_size_0 rfl (lv_at hl 0 rfl) ?_
  refine sm_gt (ci := 1) (C := RX1) (T := TX1) (N := 5) hx hb hts inlX1 hown hK hP 18 rfl rfl 4 (by decide) wf_RX1_25 rfl dX1_size_1 ?_
  exact sm_retP hC rfl rfl dX1_size_4

set_option maxHeartbeats 1000000 in
set_option maxRecDepth 100000 in
theorem c_X1_isFull_g (hM : M.1 ≤ 120) : sm_MP l yX1_isFull cX1_isFull 1 (some .boolean) 0 0 [.ref (ad 18)] D (sm_w6 D ad P S T L M C cp ph fo ne no rc wr) (some (.int (sm_b (sm_full M)))) := by
  refine sm_met (own := RX1) (by decide) rfl (Nat.le_of_ble_eq_true rfl) ?_
  intro p e s m below meth c ls hC hv hl
  obtain ⟨hx, hb, hml, hr, hown, hlk, hts⟩ := id hC
  obtain ⟨hP, hK⟩ := hv
  have hl : lv_has ls 1 [(0, .ref (ad 18))] := hl
  refine lv_aload_n hx hb dX1_isFull_0 rfl (lv_at hl 0 rfl) ?_
  refine sm_gt (ci := 1) (C := RX1) (T := TX1) (N := 5) hx hb hts inlX1 hown hK hP 18 rfl rfl 4 (by decide) wf_RX1_25 rfl dX1_isFull_1 ?_
  refine lv_bipush (v := 120) hx hb dX1_isFull_4 (by decide) ?_
  refine lv_icmp_lt (tgt := 13) hx hb dX1_isFull_6 (by decide) (fun c_1 => ?_) (fun c_1 => ?_)
  · have c_1 := sm_Nlt (a := M.1) (b := 120) (c_1) (by omega) (by omega)
    refine lv_iconst (v := 0) hx hb dX1_isFull_13 (by decide) ?_
    exact sm_retP hC (by first | rfl | (simp [sm_full, sm_b, c_1]; done) | (simp [sm_full, sm_b] at c_1; simp [sm_full, sm_b, c_1]; done) | (simp_all [sm_full, sm_b]; done)) (by decide) dX1_isFull_14
  · have c_1 := sm_Nnl (a := M.1) (b := 120) (c_1) (by omega) (by omega)
    refine lv_iconst (v := 1) hx hb dX1_isFull_9 (by decide) ?_
    refine lv_goto (tgt := 14) hx hb dX1_isFull_10 (by decide) ?_
    exact sm_retP hC (by first | rfl | (simp [sm_full, sm_b, c_1]; done) | (simp [sm_full, sm_b] at c_1; simp [sm_full, sm_b, c_1]; done) | (simp_all [sm_full, sm_b]; done)) (by decide) dX1_isFull_14

set_option maxHeartbeats 1000000 in
set_option maxRecDepth 100000 in
theorem c_X1_clear_g  : sm_MC l yX1_clear cX1_clear 1 none 0 0 [.ref (ad 18)] D (sm_w6 D ad P S T L M C cp ph fo ne no rc wr) (fun w => w = sm_w6 D ad P S T L (0, M.2) C cp ph fo ne no rc wr) none := by
  refine sm_met (own := RX1) (by decide) rfl (Nat.le_of_ble_eq_true rfl) ?_
  intro p e s m below meth c ls hC hv hl
  obtain ⟨hx, hb, hml, hr, hown, hlk, hts⟩ := id hC
  obtain ⟨⟨hP, hK⟩, hD, hZ⟩ := hv
  have hS : va_S (sm_ad (sm_w6 D ad P S T L M C cp ph fo ne no rc wr)) s.heap s.heap [] := va_S.rf
  have hl : lv_has ls 1 [(0, .ref (ad 18))] := hl
  refine lv_aload_n hx hb dX1_clear_0 rfl (lv_at hl 0 rfl) ?_
  refine lv_iconst (v := 0) hx hb dX1_clear_1 (by decide) ?_
  refine sm_pt (ci := 1) (C := RX1) (T := TX1) (N := 5) hx hb hts inlX1 tyX1 tyX1_ok nmX1 hown hK hP hD hS 18 rfl rfl 4 (by decide) wf_RX1_25 rfl rfl rfl (Nat.le_of_ble_eq_true rfl) dX1_clear_2 (fun H locs hP hD hS => ?_)
  have hP : va_P D.1 sm_cl (sm_w6 D ad P S T L (0, M.2) C cp ph fo ne no rc wr) H := hP
  have hD : va_D (sm_ad (sm_w6 D ad P S T L M C cp ph fo ne no rc wr)) (sm_w6 D ad P S T L (0, M.2) C cp ph fo ne no rc wr) := hD
  exact sm_vretC hC hP hD hS rfl  (by exact rfl) dX1_clear_5

set_option maxHeartbeats 1000000 in
set_option maxRecDepth 100000 in
theorem c_X1_append_g (k : Nat) (z : Bool) (a b : Int32) (hM : M.1 < 120) : sm_MC l yX1_append cX1_append 5 none 0 0 [.ref (ad 18), .int (nI k), .int (sm_b z), .int a, .int b] D (sm_w6 D ad P S T L M C cp ph fo ne no rc wr) (fun w => w = sm_w6 D ad P S T L (sm_appL M k z a b) C cp ph fo ne no rc wr) none := by
  refine sm_met (own := RX1) (by decide) rfl (Nat.le_of_ble_eq_true rfl) ?_
  intro p e s m below meth c ls hC hv hl
  obtain ⟨hx, hb, hml, hr, hown, hlk, hts⟩ := id hC
  obtain ⟨⟨hP, hK⟩, hD, hZ⟩ := hv
  have hS : va_S (sm_ad (sm_w6 D ad P S T L M C cp ph fo ne no rc wr)) s.heap s.heap [] := va_S.rf
  have hl : lv_has ls 5 [(0, .ref (ad 18)), (1, .int (nI k)), (2, .int (sm_b z)), (3, .int a), (4, .int b)] := hl
  refine lv_aload_n hx hb dX1_append_0 rfl (lv_at hl 0 rfl) ?_
  refine sm_gt (ci := 1) (C := RX1) (T := TX1) (N := 5) hx hb hts inlX1 hown hK hP 18 rfl rfl 4 (by decide) wf_RX1_25 rfl dX1_append_1 ?_
  refine lv_if_lt (tgt := 67) hx hb dX1_append_4 (by decide) (fun h => absurd h (fun z => absurd (sm_Nlt (a := M.1) (b := 0) z (by omega) (by omega)) (Nat.not_lt_zero _))) (fun _ => ?_)
  refine lv_aload_n hx hb dX1_append_7 rfl (lv_at hl 0 rfl) ?_
  refine sm_gt (ci := 1) (C := RX1) (T := TX1) (N := 5) hx hb hts inlX1 hown hK hP 18 rfl rfl 4 (by decide) wf_RX1_25 rfl dX1_append_8 ?_
  refine lv_bipush (v := 120) hx hb dX1_append_11 (by decide) ?_
  refine lv_icmp_ge (tgt := 67) hx hb dX1_append_13 (by decide) (fun h => absurd h (Int32.not_le.mpr (sm_pNlt (a := M.1) (b := 120) hM (by omega)))) (fun _ => ?_)
  refine lv_aload_n hx hb dX1_append_16 rfl (lv_at hl 0 rfl) ?_
  refine sm_gt (ci := 1) (C := RX1) (T := TX1) (N := 5) hx hb hts inlX1 hown hK hP 18 rfl rfl 0 (by decide) wf_RX1_9 rfl dX1_append_17 ?_
  refine lv_aload_n hx hb dX1_append_20 rfl (lv_at hl 0 rfl) ?_
  refine sm_gt (ci := 1) (C := RX1) (T := TX1) (N := 5) hx hb hts inlX1 hown hK hP 18 rfl rfl 4 (by decide) wf_RX1_25 rfl dX1_append_21 ?_
  refine lv_iload_n hx hb dX1_append_24 rfl (lv_at hl 1 rfl) ?_
  refine sm_istG (g := nI) hx hb hK hP hD hS 19 rfl k rfl M.1 rfl (by omega) (by decide) dX1_append_25 (fun H locs hP hD hS => ?_)
  have hP : va_P D.1 sm_cl (sm_w6 D ad P S T L (M.1, va_up M.2.1 M.1 k, M.2.2) C cp ph fo ne no rc wr) H := hP
  have hD : va_D (sm_ad (sm_w6 D ad P S T L M C cp ph fo ne no rc wr)) (sm_w6 D ad P S T L (M.1, va_up M.2.1 M.1 k, M.2.2) C cp ph fo ne no rc wr) := hD
  refine lv_aload_n hx hb dX1_append_26 rfl (lv_at hl 0 rfl) ?_
  refine sm_gt (ci := 1) (C := RX1) (T := TX1) (N := 5) hx hb hts inlX1 hown hK hP 18 rfl rfl 1 (by decide) wf_RX1_15 rfl dX1_append_27 ?_
  refine lv_aload_n hx hb dX1_append_30 rfl (lv_at hl 0 rfl) ?_
  refine sm_gt (ci := 1) (C := RX1) (T := TX1) (N := 5) hx hb hts inlX1 hown hK hP 18 rfl rfl 4 (by decide) wf_RX1_25 rfl dX1_append_31 ?_
  refine lv_iload_n hx hb dX1_append_34 rfl (lv_at hl 2 rfl) ?_
  refine sm_zst hx hb hK hP hD hS 20 rfl z rfl M.1 rfl (by omega) (by decide) dX1_append_35 (fun H locs hP hD hS => ?_)
  have hP : va_P D.1 sm_cl (sm_w6 D ad P S T L (M.1, va_up M.2.1 M.1 k, va_up M.2.2.1 M.1 z, M.2.2.2) C cp ph fo ne no rc wr) H := hP
  have hD : va_D (sm_ad (sm_w6 D ad P S T L M C cp ph fo ne no rc wr)) (sm_w6 D ad P S T L (M.1, va_up M.2.1 M.1 k, va_up M.2.2.1 M.1 z, M.2.2.2) C cp ph fo ne no rc wr) := hD
  refine lv_aload_n hx hb dX1_append_36 rfl (lv_at hl 0 rfl) ?_
  refine sm_gt (ci := 1) (C := RX1) (T := TX1) (N := 5) hx hb hts inlX1 hown hK hP 18 rfl rfl 2 (by decide) wf_RX1_19 rfl dX1_append_37 ?_
  refine lv_aload_n hx hb dX1_append_40 rfl (lv_at hl 0 rfl) ?_
  refine sm_gt (ci := 1) (C := RX1) (T := TX1) (N := 5) hx hb hts inlX1 hown hK hP 18 rfl rfl 4 (by decide) wf_RX1_25 rfl dX1_append_41 ?_
  refine lv_iload_n hx hb dX1_append_44 rfl (lv_at hl 3 rfl) ?_
  refine sm_ist hx hb hK hP hD hS 21 rfl M.1 rfl (by omega) (by decide) dX1_append_45 (fun H locs hP hD hS => ?_)
  have hP : va_P D.1 sm_cl (sm_w6 D ad P S T L (M.1, va_up M.2.1 M.1 k, va_up M.2.2.1 M.1 z, va_up M.2.2.2.1 M.1 a, M.2.2.2.2) C cp ph fo ne no rc wr) H := hP
  have hD : va_D (sm_ad (sm_w6 D ad P S T L M C cp ph fo ne no rc wr)) (sm_w6 D ad P S T L (M.1, va_up M.2.1 M.1 k, va_up M.2.2.1 M.1 z, va_up M.2.2.2.1 M.1 a, M.2.2.2.2) C cp ph fo ne no rc wr) := hD
  refine lv_aload_n hx hb dX1_append_46 rfl (lv_at hl 0 rfl) ?_
  refine sm_gt (ci := 1) (C := RX1) (T := TX1) (N := 5) hx hb hts inlX1 hown hK hP 18 rfl rfl 3 (by decide) wf_RX1_22 rfl dX1_append_47 ?_
  refine lv_aload_n hx hb dX1_append_50 rfl (lv_at hl 0 rfl) ?_
  refine sm_gt (ci := 1) (C := RX1) (T := TX1) (N := 5) hx hb hts inlX1 hown hK hP 18 rfl rfl 4 (by decide) wf_RX1_25 rfl dX1_append_51 ?_
  refine lv_iload hx hb dX1_append_54 (lv_at hl 4 rfl) ?_
  refine sm_ist hx hb hK hP hD hS 22 rfl M.1 rfl (by omega) (by decide) dX1_append_56 (fun H locs hP hD hS => ?_)
  have hP : va_P D.1 sm_cl (sm_w6 D ad P S T L (M.1, va_up M.2.1 M.1 k, va_up M.2.2.1 M.1 z, va_up M.2.2.2.1 M.1 a, va_up M.2.2.2.2 M.1 b) C cp ph fo ne no rc wr) H := hP
  have hD : va_D (sm_ad (sm_w6 D ad P S T L M C cp ph fo ne no rc wr)) (sm_w6 D ad P S T L (M.1, va_up M.2.1 M.1 k, va_up M.2.2.1 M.1 z, va_up M.2.2.2.1 M.1 a, va_up M.2.2.2.2 M.1 b) C cp ph fo ne no rc wr) := hD
  refine lv_aload_n hx hb dX1_append_57 rfl (lv_at hl 0 rfl) ?_
  refine lv_dup hx hb dX1_append_58 rfl ?_
  refine sm_gt (ci := 1) (C := RX1) (T := TX1) (N := 5) hx hb hts inlX1 hown hK hP 18 rfl rfl 4 (by decide) wf_RX1_25 rfl dX1_append_59 ?_
  refine lv_iconst (v := 1) hx hb dX1_append_62 (by decide) ?_
  refine lv_iadd hx hb dX1_append_63 ?_
  refine sm_re (y := nI (M.1 + 1)) (nI_1 M.1) ?_
  refine sm_pt (ci := 1) (C := RX1) (T := TX1) (N := 5) hx hb hts inlX1 tyX1 tyX1_ok nmX1 hown hK hP hD hS 18 rfl rfl 4 (by decide) wf_RX1_25 rfl rfl rfl (Nat.le_of_ble_eq_true rfl) dX1_append_64 (fun H locs hP hD hS => ?_)
  have hP : va_P D.1 sm_cl (sm_w6 D ad P S T L (M.1 + 1, va_up M.2.1 M.1 k, va_up M.2.2.1 M.1 z, va_up M.2.2.2.1 M.1 a, va_up M.2.2.2.2 M.1 b) C cp ph fo ne no rc wr) H := hP
  have hD : va_D (sm_ad (sm_w6 D ad P S T L M C cp ph fo ne no rc wr)) (sm_w6 D ad P S T L (M.1 + 1, va_up M.2.1 M.1 k, va_up M.2.2.1 M.1 z, va_up M.2.2.2.1 M.1 a, va_up M.2.2.2.2 M.1 b) C cp ph fo ne no rc wr) := hD
  exact sm_vretC hC hP hD hS rfl  (by exact rfl) dX1_append_67

set_option maxHeartbeats 1000000 in
set_option maxRecDepth 100000 in
theorem c_X1_appendRow_g (k : Nat) (a b : Int32) (hM : M.1 < 120) : sm_MC l yX1_appendRow cX1_appendRow 4 none 1 24 [.ref (ad 18), .int (nI k), .int a, .int b] D (sm_w6 D ad P S T L M C cp ph fo ne no rc wr) (fun w => w = sm_w6 D ad P S T L (sm_appL M k false a b) C cp ph fo ne no rc wr) none := by
  refine sm_met (own := RX1) (by decide) rfl (Nat.le_of_ble_eq_true rfl) ?_
  intro p e s m below meth c ls hC hv hl
  obtain ⟨hx, hb, hml, hr, hown, hlk, hts⟩ := id hC
  obtain ⟨⟨hP, hK⟩, hD, hZ⟩ := hv
  have hS : va_S (sm_ad (sm_w6 D ad P S T L M C cp ph fo ne no rc wr)) s.heap s.heap [] := va_S.rf
  have hl : lv_has ls 4 [(0, .ref (ad 18)), (1, .int (nI k)), (2, .int a), (3, .int b)] := hl
  refine lv_aload_n hx hb dX1_appendRow_0 rfl (lv_at hl 0 rfl) ?_
  refine lv_iload_n hx hb dX1_appendRow_1 rfl (lv_at hl 1 rfl) ?_
  refine lv_iconst (v := 0) hx hb dX1_appendRow_2 (by decide) ?_
  refine lv_iload_n hx hb dX1_appendRow_3 rfl (lv_at hl 2 rfl) ?_
  refine lv_iload_n hx hb dX1_appendRow_4 rfl (lv_at hl 3 rfl) ?_
  refine sm_cVC (rest := []) hC hK hP hD hS hZ (c_X1_append_g D ad P S T L M C cp ph fo ne no rc wr k false a b hM) qyX1_append wl_RX1_29 ⟨Nat.le_of_ble_eq_true rfl, Nat.le_of_ble_eq_true rfl⟩ 18 rfl rfl rfl hl.1 rfl (Nat.le_of_ble_eq_true rfl) dX1_appendRow_5 ⟨Nat.le_of_ble_eq_true rfl, Nat.le_of_ble_eq_true rfl⟩ (fun w1 H locs hB hP hD hS => ?_)
  subst hB
  exact sm_vretC hC hP hD hS rfl  (by exact rfl) dX1_appendRow_8

set_option maxHeartbeats 1000000 in
set_option maxRecDepth 100000 in
theorem c_X1_appendDeletion_g (k : Nat) (hM : M.1 < 120) : sm_MC l yX1_appendDeletion cX1_appendDeletion 2 none 1 24 [.ref (ad 18), .int (nI k)] D (sm_w6 D ad P S T L M C cp ph fo ne no rc wr) (fun w => w = sm_w6 D ad P S T L (sm_appL M k true 0 0) C cp ph fo ne no rc wr) none := by
  refine sm_met (own := RX1) (by decide) rfl (Nat.le_of_ble_eq_true rfl) ?_
  intro p e s m below meth c ls hC hv hl
  obtain ⟨hx, hb, hml, hr, hown, hlk, hts⟩ := id hC
  obtain ⟨⟨hP, hK⟩, hD, hZ⟩ := hv
  have hS : va_S (sm_ad (sm_w6 D ad P S T L M C cp ph fo ne no rc wr)) s.heap s.heap [] := va_S.rf
  have hl : lv_has ls 2 [(0, .ref (ad 18)), (1, .int (nI k))] := hl
  refine lv_aload_n hx hb dX1_appendDeletion_0 rfl (lv_at hl 0 rfl) ?_
  refine lv_iload_n hx hb dX1_appendDeletion_1 rfl (lv_at hl 1 rfl) ?_
  refine lv_iconst (v := 1) hx hb dX1_appendDeletion_2 (by decide) ?_
  refine lv_iconst (v := 0) hx hb dX1_appendDeletion_3 (by decide) ?_
  refine lv_iconst (v := 0) hx hb dX1_appendDeletion_4 (by decide) ?_
  refine sm_cVC (rest := []) hC hK hP hD hS hZ (c_X1_append_g D ad P S T L M C cp ph fo ne no rc wr k true 0 0 hM) qyX1_append wl_RX1_29 ⟨Nat.le_of_ble_eq_true rfl, Nat.le_of_ble_eq_true rfl⟩ 18 rfl rfl rfl hl.1 rfl (Nat.le_of_ble_eq_true rfl) dX1_appendDeletion_5 ⟨Nat.le_of_ble_eq_true rfl, Nat.le_of_ble_eq_true rfl⟩ (fun w1 H locs hB hP hD hS => ?_)
  subst hB
  exact sm_vretC hC hP hD hS rfl  (by exact rfl) dX1_appendDeletion_8

set_option maxHeartbeats 1000000 in
set_option maxRecDepth 100000 in
theorem c_X1_key_g (i : Nat) (hi : i < 120) : sm_MP l yX1_key cX1_key 2 (some .int) 1 20 [.ref (ad 18), .int (nI i)] D (sm_w6 D ad P S T L M C cp ph fo ne no rc wr) (some (.int (nI (M.2.1 i)))) := by
  refine sm_met (own := RX1) (by decide) rfl (Nat.le_of_ble_eq_true rfl) ?_
  intro p e s m below meth c ls hC hv hl
  obtain ⟨hx, hb, hml, hr, hown, hlk, hts⟩ := id hC
  obtain ⟨hP, hK⟩ := hv
  have hl : lv_has ls 2 [(0, .ref (ad 18)), (1, .int (nI i))] := hl
  refine lv_iload_n hx hb dX1_key_0 rfl (lv_at hl 1 rfl) ?_
  refine sm_cSPr (rest := []) hC hK hP (c_X1_isIndex D ad P S T L M C cp ph fo ne no rc wr i (by omega)) qyX1_isIndex wl_RX1_33 ⟨Nat.le_of_ble_eq_true rfl, Nat.le_of_ble_eq_true rfl⟩ rfl hl.1 rfl (Nat.le_of_ble_eq_true rfl) dX1_key_1 ⟨Nat.le_of_ble_eq_true rfl, Nat.le_of_ble_eq_true rfl⟩ ?_
  refine lv_if_eq (tgt := 16) hx hb dX1_key_4 (by decide) (fun h => absurd h (by decide)) (fun _ => ?_)
  refine lv_aload_n hx hb dX1_key_7 rfl (lv_at hl 0 rfl) ?_
  refine sm_gt (ci := 1) (C := RX1) (T := TX1) (N := 5) hx hb hts inlX1 hown hK hP 18 rfl rfl 0 (by decide) wf_RX1_9 rfl dX1_key_8 ?_
  refine lv_iload_n hx hb dX1_key_11 rfl (lv_at hl 1 rfl) ?_
  refine sm_ild hx hb hK hP 19 rfl i rfl (by omega) (by decide) dX1_key_12 ?_
  refine lv_goto (tgt := 17) hx hb dX1_key_13 (by decide) ?_
  exact sm_retP hC rfl rfl dX1_key_17

end
